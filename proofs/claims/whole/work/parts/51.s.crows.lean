set_option maxRecDepth 100000
/-! the class's parser over a COND: rows -/
section XDs
variable {d : Nat} {h : mh_H} {B n m : Nat} {Bt : Nat → Int32} {K : Nat → Int32} {P U : Nat → Nat} {V : Nat → Int} {lo : lkt} {N f : Nat}
theorem x_mb (b : CPB h B n) (t : CTK h B n m Bt K P U V) (H1 : HC1 (d + 10) h B n m Bt K P U V lo N f) (H3 : HC3 (d + 10) h B n m Bt K P U V lo N f) : HC3 (d + 10) h B n m Bt K P U V lo N (f + 1) := by
  intro i dp s w hf H T hd h1 hd2 hw
  have hb := H.H.b
  have hN := H.H.N
  have hm := t.m
  have hn := b.n
  have hc := H.H.c
  have hp := H.H.p
  have hx := H.x
  have hy := H.y
  have gw : w < gL n := gL_w t hb (by omega) hd2 (by omega)
  have gw1 : w + 1 < gL n := gL_w t hb (show dp ≤ i by omega) hd2 (by omega)
  have gw3 : w + 3 ≤ gL n := gL_w (w := w + 2) t hb (show dp ≤ i by omega) hd2 (by omega)
  have e : (u1 s 0 w).1 1 = i := H.H.i
  rw [pgC_3]
  by_cases cc : K i = 133
  · rw [if_pos cc]
    have hi1 : i + 1 < m := tkM_s t.M hb cc (by decide) (by decide)
    have z := c_75c (d := d + 4) (s := u1 s 0 w) b t (w := Int32.ofNat 0) (by rw [e]; exact hb) (by rw [e]; exact cc) (by show s.1 7 ≤ n; omega) gw3
    rw [e] at z
    have p1 := it_75 b T gw (by decide) z
    obtain ⟨s1, hs1⟩ : ∃ s1, s1 = asS (asS (ccS (asS (u1 (u1 s 0 w) 1 (i + 1)) 172 0) 133 0) 179 (Int32.ofNat (s.1 7))) 173 0 := ⟨_, rfl⟩
    have p1' : PL (d + 10) h B 1 s s1 := by rw [hs1]; exact p1
    have F1 : CGx s s1 w (s.1 7) := by
      rw [hs1]
      exact CGx_t (CGx_t (CGx_t (CGx_t (CGx_t (CGx_1 (Or.inl rfl) (Nat.le_refl _)) (CGx_1 (Or.inr (Or.inl rfl)) (by show s.1 7 ≤ s.1 7; omega))) (CGx_as (by show w ≤ w; omega) (by show s.1 7 ≤ s.1 7; omega))) (CGx_cc (by show s.1 7 ≤ s.1 7; omega))) (CGx_as (by show w ≤ w + 1; omega) (by show s.1 7 ≤ s.1 7 + 1; omega))) (CGx_as (by show w ≤ w + 2; omega) (by show s.1 7 ≤ s.1 7 + 1; omega))
    have a0 : s1.1 0 = w + 3 := by rw [hs1]; rfl
    have a1 : s1.1 1 = i + 1 := by rw [hs1]; rfl
    have a2 : s1.1 2 = dp := by rw [hs1]; exact H.H.d
    have a4 : s1.1 4 = s.1 4 := by rw [hs1]; rfl
    have a5 : s1.1 5 = s.1 5 := by rw [hs1]; rfl
    have a6 : s1.1 6 = s.1 6 := by rw [hs1]; rfl
    have a7 : s1.1 7 = s.1 7 + 1 := by rw [hs1]; rfl
    have af : s1.2 16 7 = -1 := by rw [hs1]; exact T.f
    have ax : wSt s1 = wSt s := by
      rw [hs1]
      refine (wSt_as (by exact hN)).trans ((wSt_as (by exact hN)).trans ((wSt_cc (by exact hN)).trans ?_))
      repeat (first | refine (wSt_as (by exact hN)).trans ?_ | refine (wSt_em (by exact hN)).trans ?_ | refine (wSt_pt (by exact hN)).trans ?_ | refine (wSt_1 (by decide)).trans ?_)
      rfl
    have g0 : s1.2 23 w = glI (Int32.ofNat 172) (Int32.ofNat 0) := by
      rw [hs1, as_23, if_neg (by show ¬ w = w + 2; omega), as_23, if_neg (by show ¬ w = w + 1; omega)]
      show (asS (u1 (u1 s 0 w) 1 (i + 1)) 172 0).2 23 w = _
      rw [as_23, if_pos (by show w = w; rfl)]
      rfl
    have g1 : s1.2 23 (w + 1) = glI (Int32.ofNat 179) (Int32.ofNat (s.1 7)) := by
      rw [hs1, as_23, if_neg (by show ¬ w + 1 = w + 2; omega), as_23, if_pos (by show w + 1 = w + 1; rfl)]
      rfl
    have g2 : s1.2 23 (w + 2) = glI (Int32.ofNat 173) (Int32.ofNat 0) := by
      rw [hs1, as_23, if_pos (by show w + 2 = w + 2; rfl)]
      rfl
    have k12 : s1.2 12 (s.1 7) = 133 := by
      rw [hs1]
      show (ccS (asS (u1 (u1 s 0 w) 1 (i + 1)) 172 0) 133 0).2 12 (s.1 7) = 133
      rw [cc_12, if_pos (by show s.1 7 = s.1 7; rfl)]
    clear hs1
    have C1 : CHc Bt n m P U s1 lo (i + 1) dp := CHc_g H F1 a1 hi1 a2 (by omega) (by omega) (by omega) (by omega)
    have R := H1 (i + 1) dp s1 (w + 2) (by omega) C1 (TOP.of ⟨a0, af, g2, ⟨by decide, by decide⟩⟩) (by omega) h1 hd2 (by omega)
    have gd := (pgC_b (P := P) (V := V) (N := N) t.M f 1 dp (i + 1) (by decide) hi1).1
    generalize pgC K P V N f 1 dp (i + 1) = r1 at R gd ⊢
    rcases r1 with ⟨j, _ | tt⟩
    · obtain ⟨k1, s2, p2, F2, b2, f2, f3⟩ := R
      have gj : i + 1 ≤ j := gd.1
      exact ⟨1 + k1, s2, PL_t p1' p2, CWx_t (CGx_W F1) F2, by omega, f2, f3⟩
    obtain ⟨gi, gm, gt⟩ := gd
    obtain ⟨g3, -, -⟩ := gt tt rfl
    obtain ⟨g4, nn, cs, et⟩ := g3 rfl
    have g4' : i + 1 < j := g4
    have gm' : j < m := gm
    subst et
    obtain ⟨k1, s2, p2, F2, b2, O2, c4, c5, c6, c7, y2⟩ := R
    rw [a7] at F2 y2
    have l7 := F2.m.2.2.2
    have F12 : CGx s s2 w (s.1 7) := CGx_t F1 (CGx_w F2 (by omega) (by omega))
    have hN2 : 0 < s2.1 8 := by rw [CGx_8 F12]; exact hN
    have T2 : TOP s2 (w + 1) 179 (s.1 7) := TOP.of ⟨O2.w, O2.f, (F2.g (w + 1) (by omega)).trans g1, ⟨by decide, by omega⟩⟩
    have p3 := it_75 (d := d + 9) b T2 gw1 (by decide) (c_75p (d := d + 4) (s := u1 s2 0 (w + 1)) b (q := s.1 7) (by show s2.1 7 ≤ n; omega) (by omega))
    have q12 : s2.2 12 (s.1 7) = 133 := (F2.k 12 _ (Or.inl rfl) (by omega)).trans k12
    obtain ⟨s3, hs3⟩ : ∃ s3, s3 = ecS (u1 s2 0 (w + 1)) (s.1 7) := ⟨_, rfl⟩
    rw [← hs3] at p3
    have es3 : s3 = u2 (ccS (u1 s2 0 (w + 1)) 135 0) 13 (s.1 7) (Int32.ofNat (s2.1 7 + 1)) := by
      rw [hs3]
      unfold ecS
      have q12' : (u1 s2 0 (w + 1)).2 12 (s.1 7) = 133 := q12
      rw [q12']
      rfl
    have F3 : CGx s2 s3 (w + 1) (s.1 7) := by
      rw [hs3]
      exact CGx_t (CGx_1 (Or.inl rfl) (by omega)) (CGx_ec (Nat.le_refl _) (by show s.1 7 ≤ s2.1 7; omega))
    have b0 : s3.1 0 = w + 1 := by rw [hs3]; rfl
    have b1 : s3.1 1 = j := by rw [hs3]; exact O2.j
    have b2' : s3.1 2 = dp := by rw [hs3]; exact O2.d
    have b4 : s3.1 4 = s2.1 4 := by rw [hs3]; rfl
    have b5 : s3.1 5 = s2.1 5 := by rw [hs3]; rfl
    have b6 : s3.1 6 = s2.1 6 := by rw [hs3]; rfl
    have b7 : s3.1 7 = s2.1 7 + 1 := by rw [hs3]; rfl
    have bf : s3.2 16 7 = -1 := by rw [hs3]; exact O2.f
    have bx : wSt s3 = wn (wSt s) (lwT lo (tNd nn cs)) := by
      rw [es3]
      refine (wSt_2 (by decide) (by exact hN2)).trans ((wSt_cc (by exact hN2)).trans ?_)
      rw [wSt_1 (by decide), O2.x, ax]
    have r12 : ∀ y, y < s2.1 7 → s3.2 12 y = s2.2 12 y := fun y hy' => by
      rw [es3]
      show (ccS (u1 s2 0 (w + 1)) 135 0).2 12 y = _
      rw [cc_12, if_neg (by show ¬ y = s2.1 7; omega)]
      rfl
    have r13 : ∀ y, y < s2.1 7 → y ≠ s.1 7 → s3.2 13 y = s2.2 13 y := fun y hy' hn' => by
      rw [es3, u2_2, if_neg (by omega), cc_13, if_neg (by show ¬ y = s2.1 7; omega)]
      rfl
    have e13 : s3.2 13 (s.1 7) = Int32.ofNat (s2.1 7 + 1) := by rw [es3, u2_2, if_pos ⟨rfl, rfl⟩]
    have e12 : s3.2 12 (s2.1 7) = 135 := by
      rw [es3]
      show (ccS (u1 s2 0 (w + 1)) 135 0).2 12 (s2.1 7) = _
      rw [cc_12, if_pos (by show s2.1 7 = s2.1 7; rfl)]
    have b23 : s3.2 23 w = glI (Int32.ofNat 172) (Int32.ofNat 0) := by
      rw [F3.g w (by omega), F2.g w (by omega)]; exact g0
    clear hs3 es3
    have F13 : CGx s s3 w (s.1 7) := CGx_t F12 (CGx_w F3 (by omega) (Nat.le_refl _))
    have C3 : CHc Bt n m P U s3 lo j dp := CHc_g H F13 b1 gm' b2' (by omega) (by omega) (by omega) (by omega)
    show RCa (d + 10) h B P lo true false 0 0 8 s w i dp (bnd (pgC K P V N f 3 dp j) fun r k => (k, some (tA (tNd nn cs) r)))
    have R := H3 j dp s3 w (by omega) C3 (TOP.of ⟨b0, bf, b23, ⟨by decide, by decide⟩⟩) (by omega) h1 hd2 hw
    have gd := (pgC_b (P := P) (V := V) (N := N) t.M f 3 dp j (by decide) gm').1
    generalize pgC K P V N f 3 dp j = r3 at R gd ⊢
    rcases r3 with ⟨l, _ | rr⟩
    · obtain ⟨k4, s4, p4, F4, b4', f4, f5⟩ := R
      have gl : j ≤ l := gd.1
      exact ⟨1 + k1 + 1 + k4, s4, PL_t (PL_t (PL_t p1' p2) p3) p4, CWx_t (CGx_W F13) F4, by omega, f4, f5⟩
    have gl : j ≤ l := gd.1
    obtain ⟨k4, s4, p4, F4, b4', O4, d4, d5, d6, d7, y4⟩ := R
    rw [b7] at F4 y4
    have lA : wn (wn (wSt s) (lwT lo (tNd nn cs))) (lwT lo rr) = wn (wSt s) (lwT lo (tA (tNd nn cs) rr)) := lwT_A
    refine ⟨1 + k1 + 1 + k4, s4, PL_t (PL_t (PL_t p1' p2) p3) p4, CGx_t F13 (CGx_w F4 (by omega) (by omega)), by omega, COK.of ⟨O4.w, O4.j, O4.d, O4.f, by rw [O4.x, bx, lA]⟩, by omega, by omega, by omega, by omega, ?_⟩
    show cy (s4.2 12) (s4.2 13) (rlx lo s4) (.branch nn cs rr) true false (s.1 7) (s4.1 7)
    rw [cyi_L]
    refine ⟨s2.1 7, ?_, ?_, ?_, ?_, y4⟩
    · rw [F4.k 12 _ (Or.inl rfl) (by omega), r12 _ (by omega), q12]; rfl
    · rw [F4.k 13 _ (Or.inr rfl) (by omega), e13]
    · refine cy_g F4 (fun y y1 y2' => ⟨F4.k 12 y (Or.inl rfl) (by omega), F4.k 13 y (Or.inr rfl) (by omega)⟩) (cy_g F3 (fun y y1 y2' => ⟨r12 y y2', r13 y y2' (by omega)⟩) ?_)
      rw [cyi_o (r2 := .leaf ()) (an' := false)]
      exact y2
    · rw [F4.k 12 _ (Or.inl rfl) (by omega), e12]; rfl
  · rw [if_neg cc]
    have p3 := it_75 (d := d + 9) b T gw (by decide) (c_75d (d := d + 4) (s := u1 s 0 w) b t (w := Int32.ofNat 0) (by rw [e]; exact hb) (by rw [e]; exact cc))
    exact ⟨1, u1 s 0 w, p3, CGx_1 (Or.inl rfl) (Nat.le_refl _), by omega, COK.of ⟨rfl, H.H.i, H.H.d, T.f, by rw [wSt_1 (by decide)]; exact wn_0.symm⟩, by show s.1 4 ≤ _; omega, by show s.1 5 ≤ _; omega, by show s.1 6 + 0 ≤ _; omega, by show s.1 7 + 0 ≤ _; omega, ⟨rfl, rfl⟩⟩
theorem x_ma (b : CPB h B n) (t : CTK h B n m Bt K P U V) (H1 : HC2 (d + 10) h B n m Bt K P U V lo N f) (H3 : HC4 (d + 10) h B n m Bt K P U V lo N f) : HC4 (d + 10) h B n m Bt K P U V lo N (f + 1) := by
  intro i dp s w hf H T hd h1 hd2 hw
  have hb := H.H.b
  have hN := H.H.N
  have hm := t.m
  have hn := b.n
  have hc := H.H.c
  have hp := H.H.p
  have hx := H.x
  have hy := H.y
  have gw : w < gL n := gL_w t hb (by omega) hd2 (by omega)
  have gw1 : w + 1 < gL n := gL_w t hb (show dp ≤ i by omega) hd2 (by omega)
  have gw3 : w + 3 ≤ gL n := gL_w (w := w + 2) t hb (show dp ≤ i by omega) hd2 (by omega)
  have e : (u1 s 0 w).1 1 = i := H.H.i
  rw [pgC_4]
  by_cases cc : K i = 132
  · rw [if_pos cc]
    have hi1 : i + 1 < m := tkM_s t.M hb cc (by decide) (by decide)
    have z := c_75f (d := d + 4) (s := u1 s 0 w) b t (w := Int32.ofNat 0) (by rw [e]; exact hb) (by rw [e]; exact cc) (by show s.1 7 ≤ n; omega) gw3
    rw [e] at z
    have p1 := it_75 b T gw (by decide) z
    obtain ⟨s1, hs1⟩ : ∃ s1, s1 = asS (asS (ccS (asS (u1 (u1 s 0 w) 1 (i + 1)) 174 0) 132 0) 179 (Int32.ofNat (s.1 7))) 175 0 := ⟨_, rfl⟩
    have p1' : PL (d + 10) h B 1 s s1 := by rw [hs1]; exact p1
    have F1 : CGx s s1 w (s.1 7) := by
      rw [hs1]
      exact CGx_t (CGx_t (CGx_t (CGx_t (CGx_t (CGx_1 (Or.inl rfl) (Nat.le_refl _)) (CGx_1 (Or.inr (Or.inl rfl)) (by show s.1 7 ≤ s.1 7; omega))) (CGx_as (by show w ≤ w; omega) (by show s.1 7 ≤ s.1 7; omega))) (CGx_cc (by show s.1 7 ≤ s.1 7; omega))) (CGx_as (by show w ≤ w + 1; omega) (by show s.1 7 ≤ s.1 7 + 1; omega))) (CGx_as (by show w ≤ w + 2; omega) (by show s.1 7 ≤ s.1 7 + 1; omega))
    have a0 : s1.1 0 = w + 3 := by rw [hs1]; rfl
    have a1 : s1.1 1 = i + 1 := by rw [hs1]; rfl
    have a2 : s1.1 2 = dp := by rw [hs1]; exact H.H.d
    have a4 : s1.1 4 = s.1 4 := by rw [hs1]; rfl
    have a5 : s1.1 5 = s.1 5 := by rw [hs1]; rfl
    have a6 : s1.1 6 = s.1 6 := by rw [hs1]; rfl
    have a7 : s1.1 7 = s.1 7 + 1 := by rw [hs1]; rfl
    have af : s1.2 16 7 = -1 := by rw [hs1]; exact T.f
    have ax : wSt s1 = wSt s := by
      rw [hs1]
      refine (wSt_as (by exact hN)).trans ((wSt_as (by exact hN)).trans ((wSt_cc (by exact hN)).trans ?_))
      repeat (first | refine (wSt_as (by exact hN)).trans ?_ | refine (wSt_em (by exact hN)).trans ?_ | refine (wSt_pt (by exact hN)).trans ?_ | refine (wSt_1 (by decide)).trans ?_)
      rfl
    have g0 : s1.2 23 w = glI (Int32.ofNat 174) (Int32.ofNat 0) := by
      rw [hs1, as_23, if_neg (by show ¬ w = w + 2; omega), as_23, if_neg (by show ¬ w = w + 1; omega)]
      show (asS (u1 (u1 s 0 w) 1 (i + 1)) 174 0).2 23 w = _
      rw [as_23, if_pos (by show w = w; rfl)]
      rfl
    have g1 : s1.2 23 (w + 1) = glI (Int32.ofNat 179) (Int32.ofNat (s.1 7)) := by
      rw [hs1, as_23, if_neg (by show ¬ w + 1 = w + 2; omega), as_23, if_pos (by show w + 1 = w + 1; rfl)]
      rfl
    have g2 : s1.2 23 (w + 2) = glI (Int32.ofNat 175) (Int32.ofNat 0) := by
      rw [hs1, as_23, if_pos (by show w + 2 = w + 2; rfl)]
      rfl
    have k12 : s1.2 12 (s.1 7) = 132 := by
      rw [hs1]
      show (ccS (asS (u1 (u1 s 0 w) 1 (i + 1)) 174 0) 132 0).2 12 (s.1 7) = 132
      rw [cc_12, if_pos (by show s.1 7 = s.1 7; rfl)]
    clear hs1
    have C1 : CHc Bt n m P U s1 lo (i + 1) dp := CHc_g H F1 a1 hi1 a2 (by omega) (by omega) (by omega) (by omega)
    have R := H1 (i + 1) dp s1 (w + 2) (by omega) C1 (TOP.of ⟨a0, af, g2, ⟨by decide, by decide⟩⟩) (by omega) h1 hd2 (by omega)
    have gd := (pgC_b (P := P) (V := V) (N := N) t.M f 2 dp (i + 1) (by decide) hi1).1
    generalize pgC K P V N f 2 dp (i + 1) = r1 at R gd ⊢
    rcases r1 with ⟨j, _ | tt⟩
    · obtain ⟨k1, s2, p2, F2, b2, f2, f3⟩ := R
      have gj : i + 1 ≤ j := gd.1
      exact ⟨1 + k1, s2, PL_t p1' p2, CWx_t (CGx_W F1) F2, by omega, f2, f3⟩
    obtain ⟨gi, gm, gt⟩ := gd
    obtain ⟨g3, -, -⟩ := gt tt rfl
    obtain ⟨g4, nn, cs, et⟩ := g3 rfl
    have g4' : i + 1 < j := g4
    have gm' : j < m := gm
    subst et
    obtain ⟨k1, s2, p2, F2, b2, O2, c4, c5, c6, c7, y2⟩ := R
    rw [a7] at F2 y2
    have l7 := F2.m.2.2.2
    have F12 : CGx s s2 w (s.1 7) := CGx_t F1 (CGx_w F2 (by omega) (by omega))
    have hN2 : 0 < s2.1 8 := by rw [CGx_8 F12]; exact hN
    have T2 : TOP s2 (w + 1) 179 (s.1 7) := TOP.of ⟨O2.w, O2.f, (F2.g (w + 1) (by omega)).trans g1, ⟨by decide, by omega⟩⟩
    have p3 := it_75 (d := d + 9) b T2 gw1 (by decide) (c_75p (d := d + 4) (s := u1 s2 0 (w + 1)) b (q := s.1 7) (by show s2.1 7 ≤ n; omega) (by omega))
    have q12 : s2.2 12 (s.1 7) = 132 := (F2.k 12 _ (Or.inl rfl) (by omega)).trans k12
    obtain ⟨s3, hs3⟩ : ∃ s3, s3 = ecS (u1 s2 0 (w + 1)) (s.1 7) := ⟨_, rfl⟩
    rw [← hs3] at p3
    have es3 : s3 = u2 (ccS (u1 s2 0 (w + 1)) 134 0) 13 (s.1 7) (Int32.ofNat (s2.1 7 + 1)) := by
      rw [hs3]
      unfold ecS
      have q12' : (u1 s2 0 (w + 1)).2 12 (s.1 7) = 132 := q12
      rw [q12']
      rfl
    have F3 : CGx s2 s3 (w + 1) (s.1 7) := by
      rw [hs3]
      exact CGx_t (CGx_1 (Or.inl rfl) (by omega)) (CGx_ec (Nat.le_refl _) (by show s.1 7 ≤ s2.1 7; omega))
    have b0 : s3.1 0 = w + 1 := by rw [hs3]; rfl
    have b1 : s3.1 1 = j := by rw [hs3]; exact O2.j
    have b2' : s3.1 2 = dp := by rw [hs3]; exact O2.d
    have b4 : s3.1 4 = s2.1 4 := by rw [hs3]; rfl
    have b5 : s3.1 5 = s2.1 5 := by rw [hs3]; rfl
    have b6 : s3.1 6 = s2.1 6 := by rw [hs3]; rfl
    have b7 : s3.1 7 = s2.1 7 + 1 := by rw [hs3]; rfl
    have bf : s3.2 16 7 = -1 := by rw [hs3]; exact O2.f
    have bx : wSt s3 = wn (wSt s) (lwT lo (tNd nn cs)) := by
      rw [es3]
      refine (wSt_2 (by decide) (by exact hN2)).trans ((wSt_cc (by exact hN2)).trans ?_)
      rw [wSt_1 (by decide), O2.x, ax]
    have r12 : ∀ y, y < s2.1 7 → s3.2 12 y = s2.2 12 y := fun y hy' => by
      rw [es3]
      show (ccS (u1 s2 0 (w + 1)) 134 0).2 12 y = _
      rw [cc_12, if_neg (by show ¬ y = s2.1 7; omega)]
      rfl
    have r13 : ∀ y, y < s2.1 7 → y ≠ s.1 7 → s3.2 13 y = s2.2 13 y := fun y hy' hn' => by
      rw [es3, u2_2, if_neg (by omega), cc_13, if_neg (by show ¬ y = s2.1 7; omega)]
      rfl
    have e13 : s3.2 13 (s.1 7) = Int32.ofNat (s2.1 7 + 1) := by rw [es3, u2_2, if_pos ⟨rfl, rfl⟩]
    have e12 : s3.2 12 (s2.1 7) = 134 := by
      rw [es3]
      show (ccS (u1 s2 0 (w + 1)) 134 0).2 12 (s2.1 7) = _
      rw [cc_12, if_pos (by show s2.1 7 = s2.1 7; rfl)]
    have b23 : s3.2 23 w = glI (Int32.ofNat 174) (Int32.ofNat 0) := by
      rw [F3.g w (by omega), F2.g w (by omega)]; exact g0
    clear hs3 es3
    have F13 : CGx s s3 w (s.1 7) := CGx_t F12 (CGx_w F3 (by omega) (Nat.le_refl _))
    have C3 : CHc Bt n m P U s3 lo j dp := CHc_g H F13 b1 gm' b2' (by omega) (by omega) (by omega) (by omega)
    show RCa (d + 10) h B P lo true true 0 0 8 s w i dp (bnd (pgC K P V N f 4 dp j) fun r k => (k, some (tA (tNd nn cs) r)))
    have R := H3 j dp s3 w (by omega) C3 (TOP.of ⟨b0, bf, b23, ⟨by decide, by decide⟩⟩) (by omega) h1 hd2 hw
    have gd := (pgC_b (P := P) (V := V) (N := N) t.M f 4 dp j (by decide) gm').1
    generalize pgC K P V N f 4 dp j = r3 at R gd ⊢
    rcases r3 with ⟨l, _ | rr⟩
    · obtain ⟨k4, s4, p4, F4, b4', f4, f5⟩ := R
      have gl : j ≤ l := gd.1
      exact ⟨1 + k1 + 1 + k4, s4, PL_t (PL_t (PL_t p1' p2) p3) p4, CWx_t (CGx_W F13) F4, by omega, f4, f5⟩
    have gl : j ≤ l := gd.1
    obtain ⟨k4, s4, p4, F4, b4', O4, d4, d5, d6, d7, y4⟩ := R
    rw [b7] at F4 y4
    have lA : wn (wn (wSt s) (lwT lo (tNd nn cs))) (lwT lo rr) = wn (wSt s) (lwT lo (tA (tNd nn cs) rr)) := lwT_A
    refine ⟨1 + k1 + 1 + k4, s4, PL_t (PL_t (PL_t p1' p2) p3) p4, CGx_t F13 (CGx_w F4 (by omega) (by omega)), by omega, COK.of ⟨O4.w, O4.j, O4.d, O4.f, by rw [O4.x, bx, lA]⟩, by omega, by omega, by omega, by omega, ?_⟩
    show cy (s4.2 12) (s4.2 13) (rlx lo s4) (.branch nn cs rr) true true (s.1 7) (s4.1 7)
    rw [cyi_L]
    refine ⟨s2.1 7, ?_, ?_, ?_, ?_, y4⟩
    · rw [F4.k 12 _ (Or.inl rfl) (by omega), r12 _ (by omega), q12]; rfl
    · rw [F4.k 13 _ (Or.inr rfl) (by omega), e13]
    · refine cy_g F4 (fun y y1 y2' => ⟨F4.k 12 y (Or.inl rfl) (by omega), F4.k 13 y (Or.inr rfl) (by omega)⟩) (cy_g F3 (fun y y1 y2' => ⟨r12 y y2', r13 y y2' (by omega)⟩) ?_)
      rw [cyi_o (r2 := .leaf ()) (an' := false)]
      exact y2
    · rw [F4.k 12 _ (Or.inl rfl) (by omega), e12]; rfl
  · rw [if_neg cc]
    have p3 := it_75 (d := d + 9) b T gw (by decide) (c_75g (d := d + 4) (s := u1 s 0 w) b t (w := Int32.ofNat 0) (by rw [e]; exact hb) (by rw [e]; exact cc))
    exact ⟨1, u1 s 0 w, p3, CGx_1 (Or.inl rfl) (Nat.le_refl _), by omega, COK.of ⟨rfl, H.H.i, H.H.d, T.f, by rw [wSt_1 (by decide)]; exact wn_0.symm⟩, by show s.1 4 ≤ _; omega, by show s.1 5 ≤ _; omega, by show s.1 6 + 0 ≤ _; omega, by show s.1 7 + 0 ≤ _; omega, ⟨rfl, rfl⟩⟩
end XDs
