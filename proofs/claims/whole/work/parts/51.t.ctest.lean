set_option maxRecDepth 100000
/-! the class's parser over a COND: TEST; all together -/
section XEs
variable {d : Nat} {h : mh_H} {B n m : Nat} {Bt : Nat → Int32} {K : Nat → Int32} {P U : Nat → Nat} {V : Nat → Int} {lo : lkt} {s : cps} {w i dp N f : Nat}
theorem x_not (b : CPB h B n) (t : CTK h B n m Bt K P U V) (H2 : HC2 (d + 10) h B n m Bt K P U V lo N f) (hf : 8 * (m - i) ≤ f) (H : CHc Bt n m P U s lo i dp) (T : TOP s w 175 0) (hd : dp + 1 ≤ i) (hd2 : dp ≤ 60) (hw : w ≤ 12 * dp + 17) (q : K i = 33) : RCa (d + 10) h B P lo false false 9 1 5 s w i dp (if 60 < dp + 1 then (i + 1, none) else bnd (pgC K P V N f 2 (dp + 1) (i + 1)) fun t j => (j, some (tNd (tE 26 (P i) 0) t))) := by
  have hb := H.H.b
  have hN := H.H.N
  have hm := t.m
  have hc := H.H.c
  have hp := H.H.p
  have hx := H.x
  have hy := H.y
  have gw : w < gL n := gL_w t hb (by omega) hd2 (by omega)
  have gw1 : w + 1 < gL n := gL_w t hb (show dp ≤ i by omega) hd2 (by omega)
  have gw3 : w + 3 ≤ gL n := gL_w (w := w + 2) t hb (show dp ≤ i by omega) hd2 (by omega)
  have hi1 : i + 1 < m := tkM_s t.M hb q (by decide) (by decide)
  have e : (u1 s 0 w).1 1 = i := H.H.i
  by_cases c : 60 < dp + 1
  · rw [if_pos c]
    have z := c_75i (d := d + 4) (s := u1 s 0 w) b t (w := Int32.ofNat 0) (by rw [e]; exact hi1) (by rw [e]; exact q) T.f (by show s.1 2 = 60; rw [H.H.d]; omega)
    rw [e] at z
    exact ⟨1, _, it_75 b T gw (by decide) z, CWx_t (CGx_W (CGx_t (CGx_1 (w := w) (Or.inl rfl) (Nat.le_refl _)) (CGx_1 (Or.inr (Or.inl rfl)) (by show s.1 7 ≤ s.1 7; omega)))) CWx_f, by omega, rfl, by show s.1 6 ≤ _; omega⟩
  rw [if_neg c]
  have z := c_75h (d := d + 4) (s := u1 s 0 w) b t (w := Int32.ofNat 0) (by rw [e]; exact hb) (by rw [e]; exact q) (by show s.1 2 < 60; rw [H.H.d]; omega) gw3
  have e2 : (u1 s 0 w).1 2 = dp := H.H.d
  rw [e, e2] at z
  have p1 := it_75 b T gw (by decide) z
  obtain ⟨s1, hs1⟩ : ∃ s1, s1 = asS (asS (asS (u1 (u1 (u1 s 0 w) 1 (i + 1)) 2 (dp + 1)) 170 0) 178 0) 175 0 := ⟨_, rfl⟩
  rw [← hs1] at p1
  have F1 : CGx s s1 w (s.1 7) := by
    rw [hs1]
    exact CGx_t (CGx_t (CGx_t (CGx_t (CGx_t (CGx_1 (Or.inl rfl) (Nat.le_refl _)) (CGx_1 (Or.inr (Or.inl rfl)) (by show s.1 7 ≤ s.1 7; omega))) (CGx_1 (Or.inr (Or.inr rfl)) (by show s.1 7 ≤ s.1 7; omega))) (CGx_as (by show w ≤ w; omega) (by show s.1 7 ≤ s.1 7; omega))) (CGx_as (by show w ≤ w + 1; omega) (by show s.1 7 ≤ s.1 7; omega))) (CGx_as (by show w ≤ w + 2; omega) (by show s.1 7 ≤ s.1 7; omega))
  have a0 : s1.1 0 = w + 3 := by rw [hs1]; rfl
  have a1 : s1.1 1 = i + 1 := by rw [hs1]; rfl
  have a2 : s1.1 2 = dp + 1 := by rw [hs1]; rfl
  have a4 : s1.1 4 = s.1 4 := by rw [hs1]; rfl
  have a5 : s1.1 5 = s.1 5 := by rw [hs1]; rfl
  have a6 : s1.1 6 = s.1 6 := by rw [hs1]; rfl
  have a7 : s1.1 7 = s.1 7 := by rw [hs1]; rfl
  have af : s1.2 16 7 = -1 := by rw [hs1]; exact T.f
  have ax : wSt s1 = wSt s := by
    rw [hs1]
    repeat (first | refine (wSt_as (by exact hN)).trans ?_ | refine (wSt_em (by exact hN)).trans ?_ | refine (wSt_pt (by exact hN)).trans ?_ | refine (wSt_1 (by decide)).trans ?_)
    rfl
  have g0 : s1.2 23 w = glI (Int32.ofNat 170) (Int32.ofNat 0) := by
    rw [hs1, as_23, if_neg (by show ¬ w = w + 2; omega), as_23, if_neg (by show ¬ w = w + 1; omega), as_23, if_pos (by show w = w; rfl)]
    rfl
  have g1 : s1.2 23 (w + 1) = glI (Int32.ofNat 178) (Int32.ofNat 0) := by
    rw [hs1, as_23, if_neg (by show ¬ w + 1 = w + 2; omega), as_23, if_pos (by show w + 1 = w + 1; rfl)]
    rfl
  have g2 : s1.2 23 (w + 2) = glI (Int32.ofNat 175) (Int32.ofNat 0) := by
    rw [hs1, as_23, if_pos (by show w + 2 = w + 2; rfl)]
    rfl
  clear hs1
  have C1 : CHc Bt n m P U s1 lo (i + 1) (dp + 1) := CHc_g H F1 a1 hi1 a2 (by omega) (by omega) (by omega) (by omega)
  have R := H2 (i + 1) (dp + 1) s1 (w + 2) (by omega) C1 (TOP.of ⟨a0, af, g2, ⟨by decide, by decide⟩⟩) (by omega) (by omega) (by omega) (by omega)
  have gd := (pgC_b (P := P) (V := V) (N := N) t.M f 2 (dp + 1) (i + 1) (by decide) hi1).1
  generalize pgC K P V N f 2 (dp + 1) (i + 1) = r1 at R gd ⊢
  rcases r1 with ⟨j, _ | tt⟩
  · obtain ⟨k1, s2, p2, F2, b2, f2, f3⟩ := R
    have gj : i + 1 ≤ j := gd.1
    exact ⟨1 + k1, s2, PL_t p1 p2, CWx_t (CGx_W F1) F2, by omega, f2, f3⟩
  have gj : i + 1 ≤ j := gd.1
  have gm' : j < m := gd.2.1
  obtain ⟨k1, s2, p2, F2, b2, O2, c4, c5, c6, c7, y2⟩ := R
  rw [a7] at F2 y2
  have l7 := F2.m.2.2.2
  have F12 : CGx s s2 w (s.1 7) := CGx_t F1 (CGx_w F2 (by omega) (Nat.le_refl _))
  have hN2 : 0 < s2.1 8 := by rw [CGx_8 F12]; exact hN
  have T2 : TOP s2 (w + 1) 178 0 := TOP.of ⟨O2.w, O2.f, (F2.g (w + 1) (by omega)).trans g1, ⟨by decide, by decide⟩⟩
  have p3 := it_75 (d := d + 9) b T2 gw1 (by decide) (c_75o (d := d + 4) (s := u1 s2 0 (w + 1)) b (w := Int32.ofNat 0) (by show s2.1 7 ≤ n; omega))
  have T3 : TOP (ccS (u1 s2 0 (w + 1)) 33 0) w 170 0 := TOP.of ⟨rfl, O2.f, (F2.g w (by omega)).trans g0, ⟨by decide, by decide⟩⟩
  have p4 := st_lv (d := d) (dp := dp + 1) b T3 gw O2.d (by omega)
  have F24 : CGx s2 (u1 (u1 (ccS (u1 s2 0 (w + 1)) 33 0) 0 w) 2 (dp + 1 - 1)) w (s.1 7) := CGx_t (CGx_t (CGx_t (CGx_1 (Or.inl rfl) l7) (CGx_cc (by show s.1 7 ≤ s2.1 7; omega))) (CGx_1 (Or.inl rfl) (by show s.1 7 ≤ s2.1 7 + 1; omega))) (CGx_1 (Or.inr (Or.inr rfl)) (by show s.1 7 ≤ s2.1 7 + 1; omega))
  have kk : tK (tE 26 (P i) 0) = 26 := tE_K (by decide)
  have r12 : ∀ y, y < s2.1 7 → (ccS (u1 s2 0 (w + 1)) 33 0).2 12 y = s2.2 12 y := fun y hy' => by
    rw [cc_12, if_neg (by show ¬ y = s2.1 7; omega)]
    rfl
  have r13 : ∀ y, y < s2.1 7 → (ccS (u1 s2 0 (w + 1)) 33 0).2 13 y = s2.2 13 y := fun y hy' => by
    rw [cc_13, if_neg (by show ¬ y = s2.1 7; omega)]
    rfl
  refine ⟨1 + k1 + 1 + 1, u1 (u1 (ccS (u1 s2 0 (w + 1)) 33 0) 0 w) 2 (dp + 1 - 1), PL_t (PL_t (PL_t p1 p2) p3) p4, CGx_t F12 F24, by omega, COK.of ⟨rfl, O2.j, by show dp + 1 - 1 = dp; omega, O2.f, ?_⟩, by show s2.1 4 ≤ _; omega, by show s2.1 5 ≤ _; omega, by show s2.1 6 + 1 ≤ _; omega, by show s2.1 7 + 1 + 1 ≤ _; omega, ?_⟩
  · rw [wSt_1 (by decide), wSt_1 (by decide)]
    refine (wSt_cc (by exact hN2)).trans ?_
    rw [wSt_1 (by decide), O2.x, ax]
    exact (lwT_N (by omega) (by omega) (by omega)).symm
  · show cy ((ccS (u1 s2 0 (w + 1)) 33 0).2 12) ((ccS (u1 s2 0 (w + 1)) 33 0).2 13) (rlx lo (u1 (u1 (ccS (u1 s2 0 (w + 1)) 33 0) 0 w) 2 (dp + 1 - 1))) (.branch (tE 26 (P i) 0) tt (.leaf ())) false false (s.1 7) (s2.1 7 + 1)
    rw [cyi_26 kk]
    exact ⟨s2.1 7, rfl, cy_g (s := s2) (s' := u1 (u1 (ccS (u1 s2 0 (w + 1)) 33 0) 0 w) 2 (dp + 1 - 1)) F24 (fun y y1 y2' => ⟨r12 y y2', r13 y y2'⟩) y2, by rw [cc_12, if_pos (by show s2.1 7 = s2.1 7; rfl)]⟩
theorem x_bra (b : CPB h B n) (t : CTK h B n m Bt K P U V) (H0 : HC0 (d + 10) h B n m Bt K P U V lo N f) (hf : 8 * (m - i) ≤ f) (H : CHc Bt n m P U s lo i dp) (T : TOP s w 175 0) (hd : dp + 1 ≤ i) (hd2 : dp ≤ 60) (hw : w ≤ 12 * dp + 17) (q : K i = 91) : RCa (d + 10) h B P lo false false 9 1 5 s w i dp (bnd (pgC K P V N f 0 (dp + 1) (i + 1)) fun t j => tak K 93 j (j + 1, some t)) := by
  have hb := H.H.b
  have hN := H.H.N
  have hm := t.m
  have hc := H.H.c
  have hp := H.H.p
  have hx := H.x
  have hy := H.y
  have gw : w < gL n := gL_w t hb (by omega) hd2 (by omega)
  have gw2 : w + 2 ≤ gL n := gL_w (w := w + 1) t hb (show dp ≤ i by omega) hd2 (by omega)
  have hi1 : i + 1 < m := tkM_s t.M hb q (by decide) (by decide)
  have e : (u1 s 0 w).1 1 = i := H.H.i
  have z := c_75j (d := d + 4) (s := u1 s 0 w) b t (w := Int32.ofNat 0) (by rw [e]; exact hb) (by rw [e]; exact q) gw2
  rw [e] at z
  have p1 := it_75 b T gw (by decide) z
  obtain ⟨s1, hs1⟩ : ∃ s1, s1 = asS (asS (u1 (u1 s 0 w) 1 (i + 1)) 93 0) 171 0 := ⟨_, rfl⟩
  rw [← hs1] at p1
  have F1 : CGx s s1 w (s.1 7) := by
    rw [hs1]
    exact CGx_t (CGx_t (CGx_t (CGx_1 (Or.inl rfl) (Nat.le_refl _)) (CGx_1 (Or.inr (Or.inl rfl)) (by show s.1 7 ≤ s.1 7; omega))) (CGx_as (by show w ≤ w; omega) (by show s.1 7 ≤ s.1 7; omega))) (CGx_as (by show w ≤ w + 1; omega) (by show s.1 7 ≤ s.1 7; omega))
  have a0 : s1.1 0 = w + 2 := by rw [hs1]; rfl
  have a1 : s1.1 1 = i + 1 := by rw [hs1]; rfl
  have a2 : s1.1 2 = dp := by rw [hs1]; exact H.H.d
  have a4 : s1.1 4 = s.1 4 := by rw [hs1]; rfl
  have a5 : s1.1 5 = s.1 5 := by rw [hs1]; rfl
  have a6 : s1.1 6 = s.1 6 := by rw [hs1]; rfl
  have a7 : s1.1 7 = s.1 7 := by rw [hs1]; rfl
  have af : s1.2 16 7 = -1 := by rw [hs1]; exact T.f
  have ax : wSt s1 = wSt s := by
    rw [hs1]
    repeat (first | refine (wSt_as (by exact hN)).trans ?_ | refine (wSt_em (by exact hN)).trans ?_ | refine (wSt_pt (by exact hN)).trans ?_ | refine (wSt_1 (by decide)).trans ?_)
    rfl
  have g0 : s1.2 23 w = glI (Int32.ofNat 93) (Int32.ofNat 0) := by
    rw [hs1, as_23, if_neg (by show ¬ w = w + 1; omega), as_23, if_pos (by show w = w; rfl)]
    rfl
  have g1 : s1.2 23 (w + 1) = glI (Int32.ofNat 171) (Int32.ofNat 0) := by
    rw [hs1, as_23, if_pos (by show w + 1 = w + 1; rfl)]
    rfl
  clear hs1
  have C1 : CHc Bt n m P U s1 lo (i + 1) dp := CHc_g H F1 a1 hi1 a2 (by omega) (by omega) (by omega) (by omega)
  have R := H0 (i + 1) dp s1 (w + 1) (by omega) C1 (TOP.of ⟨a0, af, g1, ⟨by decide, by decide⟩⟩) (by omega) hd2 (by omega)
  have gd := (pgC_b (P := P) (V := V) (N := N) t.M f 0 (dp + 1) (i + 1) (by decide) hi1).1
  generalize pgC K P V N f 0 (dp + 1) (i + 1) = r1 at R gd ⊢
  rcases r1 with ⟨j, _ | tt⟩
  · obtain ⟨k1, s2, p2, F2, b2, f2, f3⟩ := R
    have gj : i + 1 ≤ j := gd.1
    exact ⟨1 + k1, s2, PL_t p1 p2, CWx_t (CGx_W F1) F2, by omega, f2, f3⟩
  have gj : i + 1 ≤ j := gd.1
  have gm' : j < m := gd.2.1
  obtain ⟨k1, s2, p2, F2, b2, O2, c4, c5, c6, c7, y2⟩ := R
  rw [a7] at F2 y2
  have l7 := F2.m.2.2.2
  have F12 : CGx s s2 w (s.1 7) := CGx_t F1 (CGx_w F2 (by omega) (Nat.le_refl _))
  have T2 : TOP s2 w 93 0 := TOP.of ⟨O2.w, O2.f, (F2.g w (by omega)).trans g0, ⟨by decide, by decide⟩⟩
  show RCa (d + 10) h B P lo false false 9 1 5 s w i dp (tak K 93 j (j + 1, some tt))
  by_cases c93 : K j = 93
  · have p3 := st_tk (d := d) b t O2.j gm' (by decide) T2 gw c93
    have e6 : tak K 93 j (j + 1, some tt) = (j + 1, some tt) := if_pos c93
    rw [e6]
    have F24 : CGx s2 (u1 (u1 s2 0 w) 1 (j + 1)) w (s.1 7) := CGx_t (CGx_1 (Or.inl rfl) l7) (CGx_1 (Or.inr (Or.inl rfl)) l7)
    exact ⟨1 + k1 + 1, u1 (u1 s2 0 w) 1 (j + 1), PL_t (PL_t p1 p2) p3, CGx_t F12 F24, by omega, COK.of ⟨rfl, rfl, O2.d, O2.f, by rw [wSt_1 (by decide), wSt_1 (by decide), O2.x, ax]⟩, by show s2.1 4 ≤ _; omega, by show s2.1 5 ≤ _; omega, by show s2.1 6 + 1 ≤ _; omega, by show s2.1 7 + 1 ≤ _; omega, cy_g F24 (fun j _ _ => ⟨rfl, rfl⟩) y2⟩
  · have p3 := st_tn (d := d) b t O2.j gm' (by decide) T2 gw c93
    have e6 : tak K 93 j (j + 1, some tt) = (j, none) := if_neg c93
    rw [e6]
    exact ⟨1 + k1 + 1, _, PL_t (PL_t p1 p2) p3, CWx_t (CGx_W F12) (CWx_t (CGx_W (CGx_1 (w := w) (Or.inl rfl) (Nat.le_refl _))) CWx_f), by omega, rfl, by show s2.1 6 ≤ _; omega⟩
theorem relK_c (k : Int32) : (relK k = 0 ∧ ¬ k = 60 ∧ ¬ k = 128 ∧ ¬ k = 62 ∧ ¬ k = 129 ∧ ¬ k = 130 ∧ ¬ k = 131) ∨ ((27 ≤ relK k ∧ relK k ≤ 32) ∧ kd (relK k - 27) = k ∧ (k = 60 ∨ k = 128 ∨ k = 62 ∨ k = 129 ∨ k = 130 ∨ k = 131)) := by
  unfold relK
  by_cases c1 : k = 60
  · subst c1; exact Or.inr (by decide)
  by_cases c2 : k = 128
  · subst c2; exact Or.inr (by decide)
  by_cases c3 : k = 62
  · subst c3; exact Or.inr (by decide)
  by_cases c4 : k = 129
  · subst c4; exact Or.inr (by decide)
  by_cases c5 : k = 130
  · subst c5; exact Or.inr (by decide)
  by_cases c6 : k = 131
  · subst c6; exact Or.inr (by decide)
  rw [if_neg c1, if_neg c2, if_neg c3, if_neg c4, if_neg c5, if_neg c6]
  exact Or.inl ⟨rfl, c1, c2, c3, c4, c5, c6⟩
theorem x_rlt (b : CPB h B n) (t : CTK h B n m Bt K P U V) (hN8 : 8 * m + 3 ≤ N) (H : CHc Bt n m P U s lo i dp) (T : TOP s w 175 0) (hd : dp + 1 ≤ i) (hd2 : dp ≤ 60) (hw : w ≤ 12 * dp + 17) (q1 : ¬ K i = 33) (q2 : ¬ K i = 91) : RCa (d + 10) h B P lo false false 9 1 5 s w i dp (bnd (pgX K P V N 0 (dp + 1) i) fun t j => if relK (K j) = 0 then (j, none) else bnd (pgX K P V N 0 (dp + 1) (j + 1)) fun u k => (k, some (tNd (tE (relK (K j)) (tR t) 0) (tA t u)))) := by
  have hb := H.H.b
  have hN := H.H.N
  have hm := t.m
  have hn := b.n
  have hc := H.H.c
  have hp := H.H.p
  have hx := H.x
  have hy := H.y
  have gw : w < gL n := gL_w t hb (by omega) hd2 (by omega)
  have gw2 : w + 2 < gL n := gL_w t hb (show dp ≤ i by omega) hd2 (by omega)
  have gw4 : w + 4 ≤ gL n := gL_w (w := w + 3) t hb (show dp ≤ i by omega) hd2 (by omega)
  have e : (u1 s 0 w).1 1 = i := H.H.i
  have z := c_75k (d := d + 4) (s := u1 s 0 w) b t (w := Int32.ofNat 0) (by rw [e]; exact hb) (by rw [e]; exact q1) (by rw [e]; exact q2) gw4
  have p1 := it_75 b T gw (by decide) z
  obtain ⟨s1, hs1⟩ : ∃ s1, s1 = asS (asS (asS (asS (u1 s 0 w) 177 0) 161 1) 176 0) 161 0 := ⟨_, rfl⟩
  rw [← hs1] at p1
  have F1 : CGx s s1 w (s.1 7) := by
    rw [hs1]
    exact CGx_t (CGx_t (CGx_t (CGx_t (CGx_1 (Or.inl rfl) (Nat.le_refl _)) (CGx_as (by show w ≤ w; omega) (by show s.1 7 ≤ s.1 7; omega))) (CGx_as (by show w ≤ w + 1; omega) (by show s.1 7 ≤ s.1 7; omega))) (CGx_as (by show w ≤ w + 2; omega) (by show s.1 7 ≤ s.1 7; omega))) (CGx_as (by show w ≤ w + 3; omega) (by show s.1 7 ≤ s.1 7; omega))
  have a0 : s1.1 0 = w + 4 := by rw [hs1]; rfl
  have a1 : s1.1 1 = i := by rw [hs1]; exact H.H.i
  have a2 : s1.1 2 = dp := by rw [hs1]; exact H.H.d
  have a4 : s1.1 4 = s.1 4 := by rw [hs1]; rfl
  have a5 : s1.1 5 = s.1 5 := by rw [hs1]; rfl
  have a6 : s1.1 6 = s.1 6 := by rw [hs1]; rfl
  have a7 : s1.1 7 = s.1 7 := by rw [hs1]; rfl
  have af : s1.2 16 7 = -1 := by rw [hs1]; exact T.f
  have ax : wSt s1 = wSt s := by
    rw [hs1]
    repeat (first | refine (wSt_as (by exact hN)).trans ?_ | refine (wSt_em (by exact hN)).trans ?_ | refine (wSt_pt (by exact hN)).trans ?_ | refine (wSt_1 (by decide)).trans ?_)
    rfl
  have g0 : s1.2 23 w = glI (Int32.ofNat 177) (Int32.ofNat 0) := by
    rw [hs1, as_23, if_neg (by show ¬ w = w + 3; omega), as_23, if_neg (by show ¬ w = w + 2; omega), as_23, if_neg (by show ¬ w = w + 1; omega), as_23, if_pos (by show w = w; rfl)]
    rfl
  have g1 : s1.2 23 (w + 1) = glI (Int32.ofNat 161) (Int32.ofNat (tun true)) := by
    rw [hs1, as_23, if_neg (by show ¬ w + 1 = w + 3; omega), as_23, if_neg (by show ¬ w + 1 = w + 2; omega), as_23, if_pos (by show w + 1 = w + 1; rfl)]
    rfl
  have g2 : s1.2 23 (w + 2) = glI (Int32.ofNat 176) (Int32.ofNat 0) := by
    rw [hs1, as_23, if_neg (by show ¬ w + 2 = w + 3; omega), as_23, if_pos (by show w + 2 = w + 2; rfl)]
    rfl
  have g3 : s1.2 23 (w + 3) = glI (Int32.ofNat 161) (Int32.ofNat (tun false)) := by
    rw [hs1, as_23, if_pos (by show w + 3 = w + 3; rfl)]
    rfl
  clear hs1
  have C1 : CHc Bt n m P U s1 lo i dp := CHc_g H F1 a1 hb a2 (by omega) (by omega) (by omega) (by omega)
  have R := x_ws (d := d) (f := N) b t (by omega) C1 (TOP.of ⟨a0, af, g3, ⟨by decide, tun_b⟩⟩) hd hd2 (by omega)
  have gd := pgX_b (P := P) (V := V) t.M N 0 (dp + 1) i (by decide) hb
  generalize pgX K P V N 0 (dp + 1) i = r1 at R gd ⊢
  rcases r1 with ⟨j, _ | tt⟩
  · obtain ⟨k1, s2, p2, F2, b2, f2, f3⟩ := R
    exact ⟨1 + k1, s2, PL_t p1 p2, CWx_t (CGx_W F1) F2, by omega, f2, f3⟩
  obtain ⟨gi, gm, gt⟩ := gd
  obtain ⟨gg3, -, -⟩ := gt tt rfl
  obtain ⟨g4, nn, cs, et⟩ := gg3 rfl
  have g4' : i < j := g4
  have gm' : j < m := gm
  subst et
  obtain ⟨k1, s2, p2, F2, b2, O2, c4, c5, c6, c7, y2, -, -⟩ := R
  rw [a7] at F2 c7
  rw [a6] at c6 y2
  have F12 : CGx s s2 w (s.1 7) := CGx_t F1 (CGx_w F2 (by omega) (Nat.le_refl _))
  have hN2 : 0 < s2.1 8 := by rw [CGx_8 F12]; exact hN
  have T2 : TOP s2 (w + 2) 176 0 := TOP.of ⟨O2.w, O2.f, (F2.g (w + 2) (by omega)).trans g2, ⟨by decide, by decide⟩⟩
  have e2 : (u1 s2 0 (w + 2)).1 1 = j := O2.j
  show RCa (d + 10) h B P lo false false 9 1 5 s w i dp (if relK (K j) = 0 then (j, none) else bnd (pgX K P V N 0 (dp + 1) (j + 1)) fun u k => (k, some (tNd (tE (relK (K j)) (tR (tNd nn cs)) 0) (tA (tNd nn cs) u))))
  rcases relK_c (K j) with ⟨rk, n1, n2, n3, n4, n5, n6⟩ | ⟨rk, rd, ro⟩
  · rw [if_pos rk]
    have z2 := c_75m (d := d + 4) (s := u1 s2 0 (w + 2)) b t (w := Int32.ofNat 0) (by rw [e2]; exact gm') O2.f (by rw [e2]; exact n1) (by rw [e2]; exact n2) (by rw [e2]; exact n3) (by rw [e2]; exact n4) (by rw [e2]; exact n5) (by rw [e2]; exact n6)
    rw [e2] at z2
    exact ⟨1 + k1 + 1, _, PL_t (PL_t p1 p2) (it_75 b T2 gw2 (by decide) z2), CWx_t (CGx_W F12) (CWx_t (CGx_W (CGx_1 (w := w) (Or.inl rfl) (Nat.le_refl _))) CWx_f), by omega, rfl, by show s2.1 6 ≤ _; omega⟩
  rw [if_neg (by omega)]
  have hj1 : j + 1 < m := by
    rcases ro with r | r | r | r | r | r
    all_goals exact tkM_s t.M gm' r (by decide) (by decide)
  have z2 := c_75l (d := d + 4) (s := u1 s2 0 (w + 2)) b t (w := Int32.ofNat 0) (by rw [e2]; exact gm') (k := K j) (by rw [e2]) ro
  rw [e2] at z2
  have p3 := it_75 b T2 gw2 (by decide) z2
  obtain ⟨s3, hs3⟩ : ∃ s3, s3 = u1 (u2 (u1 s2 0 (w + 2)) 16 11 (K j)) 1 (j + 1) := ⟨_, rfl⟩
  rw [← hs3] at p3
  have F3 : CGx s2 s3 (w + 2) (s.1 7) := by
    rw [hs3]
    exact CGx_t (CGx_t (CGx_1 (Or.inl rfl) (by omega)) (CGx_2 (fun z => by omega) (Or.inr (Or.inl ⟨rfl, Or.inr rfl⟩)) (by show s.1 7 ≤ s2.1 7; omega))) (CGx_1 (Or.inr (Or.inl rfl)) (by show s.1 7 ≤ s2.1 7; omega))
  have b0 : s3.1 0 = w + 2 := by rw [hs3]; rfl
  have b1 : s3.1 1 = j + 1 := by rw [hs3]; rfl
  have b2' : s3.1 2 = dp := by rw [hs3]; exact O2.d
  have b4 : s3.1 4 = s2.1 4 := by rw [hs3]; rfl
  have b5 : s3.1 5 = s2.1 5 := by rw [hs3]; rfl
  have b6 : s3.1 6 = s2.1 6 := by rw [hs3]; rfl
  have b7 : s3.1 7 = s2.1 7 := by rw [hs3]; rfl
  have bf : s3.2 16 7 = -1 := by rw [hs3]; exact O2.f
  have bR : s3.2 16 11 = K j := by rw [hs3]; rfl
  have bx : wSt s3 = wn (wSt s) (lwT lo (tNd nn cs)) := by
    rw [hs3, wSt_1 (by decide)]
    refine (wSt_2 (by decide) (by exact hN2)).trans ?_
    rw [wSt_1 (by decide), O2.x, ax]
  have b23 : s3.2 23 (w + 1) = glI (Int32.ofNat 161) (Int32.ofNat (tun true)) := by
    rw [F3.g (w + 1) (by omega), F2.g (w + 1) (by omega)]; exact g1
  have b22 : s3.2 23 w = glI (Int32.ofNat 177) (Int32.ofNat 0) := by
    rw [F3.g w (by omega), F2.g w (by omega)]; exact g0
  clear hs3
  have F13 : CGx s s3 w (s.1 7) := CGx_t F12 (CGx_w F3 (by omega) (Nat.le_refl _))
  have C3 : CHc Bt n m P U s3 lo (j + 1) dp := CHc_g H F13 b1 hj1 b2' (by omega) (by omega) (by omega) (by omega)
  have R := x_ws (d := d) (f := N) b t (by omega) C3 (TOP.of ⟨b0, bf, b23, ⟨by decide, tun_b⟩⟩) (by omega) hd2 (by omega)
  have gd := pgX_b (P := P) (V := V) t.M N 0 (dp + 1) (j + 1) (by decide) hj1
  generalize pgX K P V N 0 (dp + 1) (j + 1) = r3 at R gd ⊢
  rcases r3 with ⟨l, _ | uu⟩
  · obtain ⟨k4, s4, p4, F4, b4', f4, f5⟩ := R
    have gl : j + 1 ≤ l := gd.1
    exact ⟨1 + k1 + 1 + k4, s4, PL_t (PL_t (PL_t p1 p2) p3) p4, CWx_t (CGx_W F13) F4, by omega, f4, f5⟩
  obtain ⟨gi', gm2, gt'⟩ := gd
  obtain ⟨gg4, -, -⟩ := gt' uu rfl
  have gl : j + 1 < l := (gg4 rfl).1
  obtain ⟨k4, s4, p4, F4, b4', O4, d4, d5, d6, d7, y4, -, y5⟩ := R
  rw [b7] at F4 d7
  rw [b6, c6] at d6 y4
  rw [bR] at y5
  have F14 : CGx s s4 w (s.1 7) := CGx_t F13 (CGx_w F4 (by omega) (by omega))
  have hN4 : 0 < s4.1 8 := by rw [CGx_8 F14]; exact hN
  have T4 : TOP s4 w 177 0 := TOP.of ⟨O4.w, O4.f, (F4.g w (by omega)).trans b22, ⟨by decide, by decide⟩⟩
  have p5 := it_75 (d := d + 9) b T4 gw (by decide) (c_75n (d := d + 4) (s := u1 s4 0 w) b (w := Int32.ofNat 0) (by show s4.1 7 ≤ n; omega) (by show 2 ≤ s4.1 6; omega))
  have F45 : CGx s4 (ccS (u1 s4 0 w) ((u1 s4 0 w).2 16 11) (Int32.ofNat ((u1 s4 0 w).1 6 - 2))) w (s.1 7) := CGx_t (CGx_1 (Or.inl rfl) (by omega)) (CGx_cc (by show s.1 7 ≤ s4.1 7; omega))
  have kk : tK (tE (relK (K j)) (tR (tNd nn cs)) 0) = relK (K j) := tE_K (by omega)
  have lN : ∀ y, wn y (lwT lo (tNd (tE (relK (K j)) (tR (tNd nn cs)) 0) (tA (tNd nn cs) uu))) = wn y (lwT lo (tA (tNd nn cs) uu)) := fun y => lwT_N (by rw [kk]; omega) (by rw [kk]; omega) (by rw [kk]; omega)
  have lA : wn (wn (wSt s) (lwT lo (tNd nn cs))) (lwT lo uu) = wn (wSt s) (lwT lo (tA (tNd nn cs) uu)) := lwT_A
  refine ⟨1 + k1 + 1 + k4 + 1, _, PL_t (PL_t (PL_t (PL_t p1 p2) p3) p4) p5, CGx_t F14 F45, by omega, COK.of ⟨rfl, O4.j, O4.d, O4.f, ?_⟩, by show s4.1 4 ≤ _; omega, by show s4.1 5 ≤ _; omega, by show s4.1 6 + 1 ≤ _; omega, by show s4.1 7 + 1 + 1 ≤ _; omega, ?_⟩
  · refine (wSt_cc (by exact hN4)).trans ?_
    rw [wSt_1 (by decide), O4.x, bx, lA, lN]
  · have e7 : (ccS (u1 s4 0 w) ((u1 s4 0 w).2 16 11) (Int32.ofNat ((u1 s4 0 w).1 6 - 2))).1 7 = s.1 7 + 1 := by show s4.1 7 + 1 = _; omega
    rw [e7]
    show cy _ _ _ (.branch (tE (relK (K j)) (tR (tNd nn cs)) 0) (.branch nn cs uu) (.leaf ())) false false (s.1 7) (s.1 7 + 1)
    rw [cyi_27 (by omega) (by omega), kk, rd]
    have e4 : s.1 7 = (u1 s4 0 w).1 7 := by show s.1 7 = s4.1 7; omega
    refine ⟨rk, ?_, ⟨s.1 6, ?_, by omega, SUX_g F45 (SUX_o (SUX_g F4 (SUX_g F3 y2))), SUX_g F45 y4⟩, rfl⟩
    · rw [cc_12, if_pos e4]; exact y5
    · rw [cc_13, if_pos e4]
      congr 1
      show s4.1 6 - 2 = s.1 6
      omega
theorem x_tst (b : CPB h B n) (t : CTK h B n m Bt K P U V) (hN8 : 8 * m + 3 ≤ N) (H0 : HC0 (d + 10) h B n m Bt K P U V lo N f) (H2 : HC2 (d + 10) h B n m Bt K P U V lo N f) : HC2 (d + 10) h B n m Bt K P U V lo N (f + 1) := by
  intro i dp s w hf H T hd h1 hd2 hw
  rw [pgC_2]
  by_cases c33 : K i = 33
  · rw [if_pos c33]; exact x_not b t H2 (by omega) H T hd hd2 hw c33
  rw [if_neg c33]
  by_cases c91 : K i = 91
  · rw [if_pos c91]; exact x_bra b t H0 (by omega) H T hd hd2 hw c91
  rw [if_neg c91]
  exact x_rlt b t hN8 H T hd hd2 hw c33 c91
/-- THE CLASS'S CONDs are those of the grammar -/
theorem xc_all (b : CPB h B n) (t : CTK h B n m Bt K P U V) (hN8 : 8 * m + 3 ≤ N) : ∀ f, HC0 (d + 10) h B n m Bt K P U V lo N f ∧ HC1 (d + 10) h B n m Bt K P U V lo N f ∧ HC2 (d + 10) h B n m Bt K P U V lo N f ∧ HC3 (d + 10) h B n m Bt K P U V lo N f ∧ HC4 (d + 10) h B n m Bt K P U V lo N f := by
  intro f
  induction f with
  | zero => exact ⟨fun i dp s w hf => by omega, fun i dp s w hf => by omega, fun i dp s w hf => by omega, fun i dp s w hf => by omega, fun i dp s w hf => by omega⟩
  | succ f ih =>
    obtain ⟨i0, i1, i2, i3, i4⟩ := ih
    exact ⟨x_con b t i1 i3, x_bot b t i2 i4, x_tst b t hN8 i0 i2, x_mb b t i1 i3, x_ma b t i2 i4⟩
end XEs
