set_option maxRecDepth 100000
/-! the class's parser over a COND: COND, TESTs joined by && -/
abbrev RCs (d : Nat) (h : mh_H) (B : Nat) (lo : lkt) (mo an : Bool) (ka e1 : Nat) (s : cps) (w i dp j : Nat) (t : tr) : Prop := ∃ k s', PL d h B k s s' ∧ CGx s s' w (s.1 7) ∧ k + ka ≤ 24 * (j - i) + 1 ∧ COK s s' w j dp (lwT lo t) ∧ s'.1 4 ≤ s.1 4 + (j - i) ∧ s'.1 5 ≤ s.1 5 + (j - i) ∧ s'.1 6 + e1 ≤ s.1 6 + (j - i) ∧ s'.1 7 + e1 ≤ s.1 7 + (j - i) ∧ cy (s'.2 12) (s'.2 13) (rlx lo s') t mo an (s.1 7) (s'.1 7)
def RCa (d : Nat) (h : mh_H) (B : Nat) (P : Nat → Nat) (lo : lkt) (mo an : Bool) (ka e1 kf : Nat) (s : cps) (w i dp : Nat) (r : pqr) : Prop := match r with
  | (j, none) => RCn d h B P s i j kf
  | (j, some t) => RCs d h B lo mo an ka e1 s w i dp j t
abbrev HC0 (d : Nat) (h : mh_H) (B n m : Nat) (Bt : Nat → Int32) (K : Nat → Int32) (P U : Nat → Nat) (V : Nat → Int) (lo : lkt) (N f : Nat) : Prop := ∀ i dp s w, 8 * (m - i) + 3 ≤ f → CHc Bt n m P U s lo i dp → TOP s w 171 0 → dp + 2 ≤ i → dp ≤ 60 → w ≤ 12 * dp + 24 → RCa d h B P lo false false 4 1 7 s w i dp (pgC K P V N f 0 (dp + 1) i)
abbrev HC1 (d : Nat) (h : mh_H) (B n m : Nat) (Bt : Nat → Int32) (K : Nat → Int32) (P U : Nat → Nat) (V : Nat → Int) (lo : lkt) (N f : Nat) : Prop := ∀ i dp s w, 8 * (m - i) + 2 ≤ f → CHc Bt n m P U s lo i dp → TOP s w 173 0 → dp + 1 ≤ i → 1 ≤ dp → dp ≤ 60 → w ≤ 12 * dp + 15 → RCa d h B P lo false false 7 1 6 s w i dp (pgC K P V N f 1 dp i)
abbrev HC2 (d : Nat) (h : mh_H) (B n m : Nat) (Bt : Nat → Int32) (K : Nat → Int32) (P U : Nat → Nat) (V : Nat → Int) (lo : lkt) (N f : Nat) : Prop := ∀ i dp s w, 8 * (m - i) + 1 ≤ f → CHc Bt n m P U s lo i dp → TOP s w 175 0 → dp + 1 ≤ i → 1 ≤ dp → dp ≤ 60 → w ≤ 12 * dp + 17 → RCa d h B P lo false false 9 1 5 s w i dp (pgC K P V N f 2 dp i)
abbrev HC3 (d : Nat) (h : mh_H) (B n m : Nat) (Bt : Nat → Int32) (K : Nat → Int32) (P U : Nat → Nat) (V : Nat → Int) (lo : lkt) (N f : Nat) : Prop := ∀ i dp s w, 8 * (m - i) + 1 ≤ f → CHc Bt n m P U s lo i dp → TOP s w 172 0 → dp + 1 ≤ i → 1 ≤ dp → dp ≤ 60 → w ≤ 12 * dp + 13 → RCa d h B P lo true false 0 0 8 s w i dp (pgC K P V N f 3 dp i)
abbrev HC4 (d : Nat) (h : mh_H) (B n m : Nat) (Bt : Nat → Int32) (K : Nat → Int32) (P U : Nat → Nat) (V : Nat → Int) (lo : lkt) (N f : Nat) : Prop := ∀ i dp s w, 8 * (m - i) + 1 ≤ f → CHc Bt n m P U s lo i dp → TOP s w 174 0 → dp + 1 ≤ i → 1 ≤ dp → dp ≤ 60 → w ≤ 12 * dp + 15 → RCa d h B P lo true true 0 0 8 s w i dp (pgC K P V N f 4 dp i)
section XCs
variable {d : Nat} {h : mh_H} {B n m : Nat} {Bt : Nat → Int32} {K : Nat → Int32} {P U : Nat → Nat} {V : Nat → Int} {lo : lkt} {N f : Nat}

theorem x_con (b : CPB h B n) (t : CTK h B n m Bt K P U V) (H1 : HC1 (d + 10) h B n m Bt K P U V lo N f) (H3 : HC3 (d + 10) h B n m Bt K P U V lo N f) : HC0 (d + 10) h B n m Bt K P U V lo N (f + 1) := by
  intro i dp s w hf H T hd hd2 hw
  have hb := H.H.b
  have hN := H.H.N
  have hc := H.H.c
  have hp := H.H.p
  have hx := H.x
  have hy := H.y
  have gw : w < gL n := gL_w t hb (by omega) hd2 (by omega)
  have gw1 : w + 1 < gL n := gL_w t hb (show dp ≤ i by omega) hd2 (by omega)
  have gw3 : w + 3 ≤ gL n := gL_w (w := w + 2) t hb (show dp ≤ i by omega) hd2 (by omega)
  rw [pgC_0]
  by_cases c : 60 < dp + 1
  · rw [if_pos c]
    have e : (u1 s 0 w).1 1 = i := H.H.i
    have z := c_75b (d := d + 4) (s := u1 s 0 w) b t (w := Int32.ofNat 0) (by rw [e]; exact hb) T.f (by show s.1 2 = 60; rw [H.H.d]; omega)
    rw [e] at z
    exact ⟨1, u2 (u1 s 0 w) 16 7 (Int32.ofNat (P i)), it_75 b T gw (by decide) z, CWx_t (CGx_W (CGx_1 (w := w) (Or.inl rfl) (Nat.le_refl _))) CWx_f, by omega, rfl, by show s.1 6 ≤ i + 1; omega⟩
  rw [if_neg c]
  obtain ⟨s1, hs1⟩ : ∃ s1, s1 = asS (asS (asS (u1 (u1 s 0 w) 2 (s.1 2 + 1)) 170 0) 172 0) 173 0 := ⟨_, rfl⟩
  have p1 : PL (d + 10) h B 1 s s1 := by
    rw [hs1]
    exact it_75 b T gw (by decide) (c_75a (d := d + 4) (s := u1 s 0 w) b (by show s.1 2 < 60; rw [H.H.d]; omega) gw3)
  have F1 : CGx s s1 w (s.1 7) := by
    rw [hs1]
    exact CGx_t (CGx_t (CGx_t (CGx_t (CGx_1 (Or.inl rfl) (Nat.le_refl _)) (CGx_1 (Or.inr (Or.inr rfl)) (by show s.1 7 ≤ s.1 7; omega))) (CGx_as (by show w ≤ w; omega) (by show s.1 7 ≤ s.1 7; omega))) (CGx_as (by show w ≤ w + 1; omega) (by show s.1 7 ≤ s.1 7; omega))) (CGx_as (by show w ≤ w + 2; omega) (by show s.1 7 ≤ s.1 7; omega))
  have a0 : s1.1 0 = w + 3 := by rw [hs1]; rfl
  have a1 : s1.1 1 = i := by rw [hs1]; exact H.H.i
  have a2 : s1.1 2 = dp + 1 := by rw [hs1]; show s.1 2 + 1 = dp + 1; rw [H.H.d]
  have g0 : s1.2 23 w = glI (Int32.ofNat 170) (Int32.ofNat 0) := by
    rw [hs1, as_23, if_neg (by show ¬ w = w + 2; omega), as_23, if_neg (by show ¬ w = w + 1; omega), as_23, if_pos (by show w = w; rfl)]
    rfl
  have g1 : s1.2 23 (w + 1) = glI (Int32.ofNat 172) (Int32.ofNat 0) := by
    rw [hs1, as_23, if_neg (by show ¬ w + 1 = w + 2; omega), as_23, if_pos (by show w + 1 = w + 1; rfl)]
    rfl
  have g2 : s1.2 23 (w + 2) = glI (Int32.ofNat 173) (Int32.ofNat 0) := by
    rw [hs1, as_23, if_pos (by show w + 2 = w + 2; rfl)]
    rfl
  have a4 : s1.1 4 = s.1 4 := by rw [hs1]; rfl
  have a5 : s1.1 5 = s.1 5 := by rw [hs1]; rfl
  have a6 : s1.1 6 = s.1 6 := by rw [hs1]; rfl
  have a7 : s1.1 7 = s.1 7 := by rw [hs1]; rfl
  have af : s1.2 16 7 = -1 := by rw [hs1]; exact T.f
  have ax : wSt s1 = wSt s := by
    rw [hs1]
    repeat (first | refine (wSt_as (by exact hN)).trans ?_ | refine (wSt_em (by exact hN)).trans ?_ | refine (wSt_pt (by exact hN)).trans ?_ | refine (wSt_1 (by decide)).trans ?_)
    rfl
  clear hs1
  have C1 : CHc Bt n m P U s1 lo i (dp + 1) := CHc_g H F1 a1 hb a2 (by omega) (by omega) (by omega) (by omega)
  have R := H1 i (dp + 1) s1 (w + 2) (by omega) C1 (TOP.of ⟨a0, af, g2, ⟨by decide, by decide⟩⟩) (by omega) (by omega) (by omega) (by omega)
  have gd := (pgC_b (P := P) (V := V) (N := N) t.M f 1 (dp + 1) i (by decide) hb).1
  generalize pgC K P V N f 1 (dp + 1) i = r1 at R gd ⊢
  rcases r1 with ⟨j, _ | tt⟩
  · obtain ⟨k1, s2, p2, F2, b2, f2, f3⟩ := R
    exact ⟨1 + k1, s2, PL_t p1 p2, CWx_t (CGx_W F1) F2, by omega, f2, f3⟩
  obtain ⟨gi, gm, gt⟩ := gd
  obtain ⟨g3, -, -⟩ := gt tt rfl
  obtain ⟨g4, nn, cs, et⟩ := g3 rfl
  have g4' : i < j := g4
  have gm' : j < m := gm
  subst et
  obtain ⟨k1, s2, p2, F2, b2, O2, c4, c5, c6, c7, y2⟩ := R
  rw [a7] at F2 y2
  have F12 : CGx s s2 w (s.1 7) := CGx_t F1 (CGx_w F2 (by omega) (Nat.le_refl _))
  have l7 := F2.m.2.2.2
  have C2 : CHc Bt n m P U s2 lo j (dp + 1) := CHc_g H F12 O2.j gm' O2.d (by omega) (by omega) (by omega) (by omega)
  have T2 : TOP s2 (w + 1) 172 0 := TOP.of ⟨O2.w, O2.f, (F2.g (w + 1) (by omega)).trans g1, ⟨by decide, by decide⟩⟩
  by_cases cc : K j = 133
  · show RCa (d + 10) h B P lo false false 4 1 7 s w i dp (if K j = 133 then bnd (pgC K P V N f 3 (dp + 1) j) fun r k => (k, some (tNd (tE 24 (tR (tNd nn cs)) 0) (tA (tNd nn cs) r))) else (j, some (tNd nn cs)))
    rw [if_pos cc]
    have R := H3 j (dp + 1) s2 (w + 1) (by omega) C2 T2 (by omega) (by omega) (by omega) (by omega)
    have gd := (pgC_b (P := P) (V := V) (N := N) t.M f 3 (dp + 1) j (by decide) gm').1
    generalize pgC K P V N f 3 (dp + 1) j = r3 at R gd ⊢
    rcases r3 with ⟨l, _ | rr⟩
    · obtain ⟨k3, s3, p3, F3, b3, f3, f4⟩ := R
      have gl : j ≤ l := gd.1
      exact ⟨1 + k1 + k3, s3, PL_t (PL_t p1 p2) p3, CWx_t (CGx_W F12) F3, by omega, f3, f4⟩
    have gl : j ≤ l := gd.1
    obtain ⟨k3, s3, p3, F3, b3, O3, d4, d5, d6, d7, y3⟩ := R
    have l73 := F3.m.2.2.2
    have kk : tK (tE 24 (tR (tNd nn cs)) 0) = 24 := tE_K (by decide)
    have lN : ∀ y, wn y (lwT lo (tNd (tE 24 (tR (tNd nn cs)) 0) (tA (tNd nn cs) rr))) = wn y (lwT lo (tA (tNd nn cs) rr)) := fun y => lwT_N (by rw [kk]; decide) (by rw [kk]; decide) (by rw [kk]; decide)
    have lA : wn (wn (wSt s) (lwT lo (tNd nn cs))) (lwT lo rr) = wn (wSt s) (lwT lo (tA (tNd nn cs) rr)) := lwT_A
    have T3 : TOP s3 w 170 0 := TOP.of ⟨O3.w, O3.f, ((F3.g w (by omega)).trans (F2.g w (by omega))).trans g0, ⟨by decide, by decide⟩⟩
    have p4 := st_lv (d := d) b T3 gw O3.d (by omega)
    have F34 : CGx s3 (u1 (u1 s3 0 w) 2 (dp + 1 - 1)) w (s2.1 7) := CGx_t (CGx_1 (Or.inl rfl) l73) (CGx_1 (Or.inr (Or.inr rfl)) l73)
    refine ⟨1 + k1 + k3 + 1, u1 (u1 s3 0 w) 2 (dp + 1 - 1), PL_t (PL_t (PL_t p1 p2) p3) p4, CGx_t (CGx_t F12 (CGx_w F3 (by omega) l7)) (CGx_w F34 (by omega) l7), by omega, COK.of ⟨rfl, O3.j, by show dp + 1 - 1 = dp; omega, O3.f, ?_⟩, by show s3.1 4 ≤ _; omega, by show s3.1 5 ≤ _; omega, by show s3.1 6 + 1 ≤ _; omega, by show s3.1 7 + 1 ≤ _; omega, ?_⟩
    · rw [wSt_1 (by decide), wSt_1 (by decide), O3.x, O2.x, ax, lA, lN]
    · show cy (s3.2 12) (s3.2 13) (rlx lo (u1 (u1 s3 0 w) 2 (dp + 1 - 1))) (.branch _ (.branch nn cs rr) (.leaf ())) false false (s.1 7) (s3.1 7)
      rw [cyi_25 (by omega), kk]
      refine ⟨s2.1 7, cy_g (s := s3) (s' := u1 (u1 s3 0 w) 2 (dp + 1 - 1)) F34 (fun j _ _ => ⟨rfl, rfl⟩) (cy_g F3 (fun j j1 j2 => ⟨F3.k 12 j (Or.inl rfl) j2, F3.k 13 j (Or.inr rfl) j2⟩) ?_), cy_g (s := s3) (s' := u1 (u1 s3 0 w) 2 (dp + 1 - 1)) F34 (fun j _ _ => ⟨rfl, rfl⟩) y3⟩
      rw [cyi_o (r2 := .leaf ()) (an' := false)]
      exact y2
  · show RCa (d + 10) h B P lo false false 4 1 7 s w i dp (if K j = 133 then bnd (pgC K P V N f 3 (dp + 1) j) fun r k => (k, some (tNd (tE 24 (tR (tNd nn cs)) 0) (tA (tNd nn cs) r))) else (j, some (tNd nn cs)))
    rw [if_neg cc]
    have e2 : (u1 s2 0 (w + 1)).1 1 = j := O2.j
    have p3 := it_75 (d := d + 9) b T2 (by omega) (by decide) (c_75d (d := d + 4) (s := u1 s2 0 (w + 1)) b t (w := Int32.ofNat 0) (by rw [e2]; exact gm') (by rw [e2]; exact cc))
    have T3 : TOP (u1 s2 0 (w + 1)) w 170 0 := TOP.of ⟨rfl, O2.f, (F2.g w (by omega)).trans g0, ⟨by decide, by decide⟩⟩
    have p4 := st_lv (d := d) (dp := dp + 1) b T3 gw O2.d (by omega)
    have F24 : CGx s2 (u1 (u1 (u1 s2 0 (w + 1)) 0 w) 2 (dp + 1 - 1)) w (s.1 7) := CGx_t (CGx_t (CGx_1 (Or.inl rfl) l7) (CGx_1 (Or.inl rfl) l7)) (CGx_1 (Or.inr (Or.inr rfl)) l7)
    exact ⟨1 + k1 + 1 + 1, u1 (u1 (u1 s2 0 (w + 1)) 0 w) 2 (dp + 1 - 1), PL_t (PL_t (PL_t p1 p2) p3) p4, CGx_t F12 F24, by omega, COK.of ⟨rfl, O2.j, by show dp + 1 - 1 = dp; omega, O2.f, by rw [wSt_1 (by decide), wSt_1 (by decide), wSt_1 (by decide), O2.x, ax]⟩, by show s2.1 4 ≤ _; omega, by show s2.1 5 ≤ _; omega, by show s2.1 6 + 1 ≤ _; omega, by show s2.1 7 + 1 ≤ _; omega, cy_g F24 (fun j _ _ => ⟨rfl, rfl⟩) y2⟩
theorem x_bot (b : CPB h B n) (t : CTK h B n m Bt K P U V) (H1 : HC2 (d + 10) h B n m Bt K P U V lo N f) (H3 : HC4 (d + 10) h B n m Bt K P U V lo N f) : HC1 (d + 10) h B n m Bt K P U V lo N (f + 1) := by
  intro i dp s w hf H T hd h1 hd2 hw
  have hb := H.H.b
  have hN := H.H.N
  have hc := H.H.c
  have hp := H.H.p
  have hx := H.x
  have hy := H.y
  have gw : w < gL n := gL_w t hb (by omega) hd2 (by omega)
  have gw1 : w + 1 < gL n := gL_w t hb (show dp ≤ i by omega) hd2 (by omega)
  have gw3 : w + 3 ≤ gL n := gL_w (w := w + 2) t hb (show dp ≤ i by omega) hd2 (by omega)
  rw [pgC_1]
  obtain ⟨s1, hs1⟩ : ∃ s1, s1 = asS (asS (u1 s 0 w) 174 0) 175 0 := ⟨_, rfl⟩
  have p1 : PL (d + 10) h B 1 s s1 := by
    rw [hs1]
    exact it_75 b T gw (by decide) (c_75e (d := d + 4) (s := u1 s 0 w) b (by show w + 2 ≤ gL n; omega))
  have F1 : CGx s s1 w (s.1 7) := by
    rw [hs1]
    exact CGx_t (CGx_t (CGx_1 (Or.inl rfl) (Nat.le_refl _)) (CGx_as (by show w ≤ w; omega) (by show s.1 7 ≤ s.1 7; omega))) (CGx_as (by show w ≤ w + 1; omega) (by show s.1 7 ≤ s.1 7; omega))
  have a0 : s1.1 0 = w + 2 := by rw [hs1]; rfl
  have a1 : s1.1 1 = i := by rw [hs1]; exact H.H.i
  have a2 : s1.1 2 = dp := by rw [hs1]; exact H.H.d
  have g1 : s1.2 23 w = glI (Int32.ofNat 174) (Int32.ofNat 0) := by
    rw [hs1, as_23, if_neg (by show ¬ w = w + 1; omega), as_23, if_pos (by show w = w; rfl)]
    rfl
  have g2 : s1.2 23 (w + 1) = glI (Int32.ofNat 175) (Int32.ofNat 0) := by
    rw [hs1, as_23, if_pos (by show w + 1 = w + 1; rfl)]
    rfl
  have a4 : s1.1 4 = s.1 4 := by rw [hs1]; rfl
  have a5 : s1.1 5 = s.1 5 := by rw [hs1]; rfl
  have a6 : s1.1 6 = s.1 6 := by rw [hs1]; rfl
  have a7 : s1.1 7 = s.1 7 := by rw [hs1]; rfl
  have af : s1.2 16 7 = -1 := by rw [hs1]; exact T.f
  have ax : wSt s1 = wSt s := by
    rw [hs1]
    repeat (first | refine (wSt_as (by exact hN)).trans ?_ | refine (wSt_em (by exact hN)).trans ?_ | refine (wSt_pt (by exact hN)).trans ?_ | refine (wSt_1 (by decide)).trans ?_)
    rfl
  clear hs1
  have C1 : CHc Bt n m P U s1 lo i dp := CHc_g H F1 a1 hb a2 (by omega) (by omega) (by omega) (by omega)
  have R := H1 i dp s1 (w + 1) (by omega) C1 (TOP.of ⟨a0, af, g2, ⟨by decide, by decide⟩⟩) (by omega) (by omega) (by omega) (by omega)
  have gd := (pgC_b (P := P) (V := V) (N := N) t.M f 2 dp i (by decide) hb).1
  generalize pgC K P V N f 2 dp i = r1 at R gd ⊢
  rcases r1 with ⟨j, _ | tt⟩
  · obtain ⟨k1, s2, p2, F2, b2, f2, f3⟩ := R
    exact ⟨1 + k1, s2, PL_t p1 p2, CWx_t (CGx_W F1) F2, by omega, f2, f3⟩
  obtain ⟨gi, gm, gt⟩ := gd
  obtain ⟨g3, -, -⟩ := gt tt rfl
  obtain ⟨g4, nn, cs, et⟩ := g3 rfl
  have g4' : i < j := g4
  have gm' : j < m := gm
  subst et
  obtain ⟨k1, s2, p2, F2, b2, O2, c4, c5, c6, c7, y2⟩ := R
  rw [a7] at F2 y2
  have F12 : CGx s s2 w (s.1 7) := CGx_t F1 (CGx_w F2 (by omega) (Nat.le_refl _))
  have l7 := F2.m.2.2.2
  have C2 : CHc Bt n m P U s2 lo j dp := CHc_g H F12 O2.j gm' O2.d (by omega) (by omega) (by omega) (by omega)
  have T2 : TOP s2 (w) 174 0 := TOP.of ⟨O2.w, O2.f, (F2.g (w) (by omega)).trans g1, ⟨by decide, by decide⟩⟩
  by_cases cc : K j = 132
  · show RCa (d + 10) h B P lo false false 7 1 6 s w i dp (if K j = 132 then bnd (pgC K P V N f 4 dp j) fun r k => (k, some (tNd (tE 25 (tR (tNd nn cs)) 0) (tA (tNd nn cs) r))) else (j, some (tNd nn cs)))
    rw [if_pos cc]
    have R := H3 j dp s2 (w) (by omega) C2 T2 (by omega) (by omega) (by omega) (by omega)
    have gd := (pgC_b (P := P) (V := V) (N := N) t.M f 4 dp j (by decide) gm').1
    generalize pgC K P V N f 4 dp j = r3 at R gd ⊢
    rcases r3 with ⟨l, _ | rr⟩
    · obtain ⟨k3, s3, p3, F3, b3, f3, f4⟩ := R
      have gl : j ≤ l := gd.1
      exact ⟨1 + k1 + k3, s3, PL_t (PL_t p1 p2) p3, CWx_t (CGx_W F12) F3, by omega, f3, f4⟩
    have gl : j ≤ l := gd.1
    obtain ⟨k3, s3, p3, F3, b3, O3, d4, d5, d6, d7, y3⟩ := R
    have l73 := F3.m.2.2.2
    have kk : tK (tE 25 (tR (tNd nn cs)) 0) = 25 := tE_K (by decide)
    have lN : ∀ y, wn y (lwT lo (tNd (tE 25 (tR (tNd nn cs)) 0) (tA (tNd nn cs) rr))) = wn y (lwT lo (tA (tNd nn cs) rr)) := fun y => lwT_N (by rw [kk]; decide) (by rw [kk]; decide) (by rw [kk]; decide)
    have lA : wn (wn (wSt s) (lwT lo (tNd nn cs))) (lwT lo rr) = wn (wSt s) (lwT lo (tA (tNd nn cs) rr)) := lwT_A
    refine ⟨1 + k1 + k3, s3, PL_t (PL_t p1 p2) p3, CGx_t F12 (CGx_w F3 (by omega) l7), by omega, COK.of ⟨O3.w, O3.j, O3.d, O3.f, ?_⟩, by omega, by omega, by omega, by omega, ?_⟩
    · rw [O3.x, O2.x, ax, lA, lN]
    · show cy (s3.2 12) (s3.2 13) (rlx lo s3) (.branch _ (.branch nn cs rr) (.leaf ())) false false (s.1 7) (s3.1 7)
      rw [cyi_25 (by omega), kk]
      refine ⟨s2.1 7, cy_g F3 (fun j j1 j2 => ⟨F3.k 12 j (Or.inl rfl) j2, F3.k 13 j (Or.inr rfl) j2⟩) ?_, y3⟩
      rw [cyi_o (r2 := .leaf ()) (an' := false)]
      exact y2
  · show RCa (d + 10) h B P lo false false 7 1 6 s w i dp (if K j = 132 then bnd (pgC K P V N f 4 dp j) fun r k => (k, some (tNd (tE 25 (tR (tNd nn cs)) 0) (tA (tNd nn cs) r))) else (j, some (tNd nn cs)))
    rw [if_neg cc]
    have e2 : (u1 s2 0 (w)).1 1 = j := O2.j
    have p3 := it_75 (d := d + 9) b T2 (by omega) (by decide) (c_75g (d := d + 4) (s := u1 s2 0 (w)) b t (w := Int32.ofNat 0) (by rw [e2]; exact gm') (by rw [e2]; exact cc))
    have F24 : CGx s2 (u1 s2 0 w) w (s.1 7) := CGx_1 (Or.inl rfl) l7
    exact ⟨1 + k1 + 1, u1 s2 0 w, PL_t (PL_t p1 p2) p3, CGx_t F12 F24, by omega, COK.of ⟨rfl, O2.j, O2.d, O2.f, by rw [wSt_1 (by decide), O2.x, ax]⟩, by show s2.1 4 ≤ _; omega, by show s2.1 5 ≤ _; omega, by show s2.1 6 + 1 ≤ _; omega, by show s2.1 7 + 1 ≤ _; omega, cy_g F24 (fun j _ _ => ⟨rfl, rfl⟩) y2⟩
end XCs
