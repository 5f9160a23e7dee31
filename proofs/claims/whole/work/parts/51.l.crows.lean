set_option maxRecDepth 100000
/-! the class's parser over a SUM: rows of TERMs and FACTORs -/
section XRs
variable {d : Nat} {h : mh_H} {B n m : Nat} {Bt : Nat → Int32} {K : Nat → Int32} {P U : Nat → Nat} {V : Nat → Int} {lo : lkt} {f : Nat}
theorem ts_z {t : tr} (e : ts t = 0) : ∃ u, t = .leaf u := by
  cases t with
  | leaf u => exact ⟨u, rfl⟩
  | branch n cs r => have : 1 + ts cs + ts r = 0 := e; omega
theorem x_mt (b : CPB h B n) (t : CTK h B n m Bt K P U V) (H1 : HX1 (d + 10) h B n m Bt K P U V lo f) (H3 : HX3 (d + 10) h B n m Bt K P U V lo f) : HX3 (d + 10) h B n m Bt K P U V lo (f + 1) := by
  intro i dp s w tu hf H T hd h1 hd2 hw
  have hb := H.b
  have hN := H.N
  have hm := t.m
  have hc := H.c
  have hp := H.p
  have gw : w < gL n := gL_w t hb hd hd2 (by omega)
  have gw1 : w + 1 < gL n := gL_w t hb hd hd2 (by omega)
  have gw3 : w + 3 ≤ gL n := gL_w (w := w + 2) t hb hd hd2 (by omega)
  rw [pgX_3]
  by_cases cc : K i = 43 ∨ K i = 45
  · rw [if_pos cc]
    have hi1 : i + 1 < m := by
      rcases cc with z | z
      · exact tkM_s t.M hb z (by decide) (by decide)
      · exact tkM_s t.M hb z (by decide) (by decide)
    obtain ⟨g, tu', kN, eg, e1, e2, e3⟩ : ∃ (g : Nat) (tu' : Bool) (kN : Nat), (if K i = 43 then 18 else 19) = kN ∧ PL (d + 10) h B 1 s (u1 (asS (asS (asS (u1 s 0 w) 163 (Int32.ofNat (tun tu))) 167 (Int32.ofNat g)) 164 (Int32.ofNat (tun tu'))) 1 (i + 1)) ∧ (kN = 18 ∨ kN = 19) ∧ (Int32.ofNat g = opb kN ∧ g < 256 ∧ tu' = (if kN = 18 then tu else !tu)) := by
      have e : (u1 s 0 w).1 1 = i := H.i
      by_cases q : K i = 43
      · have z := c_70d (d := d + 6) (s := u1 s 0 w) b t (w := Int32.ofNat (tun tu)) (by rw [e]; exact hb) (by rw [e]; exact q) gw3
        rw [e] at z
        exact ⟨43, tu, 18, if_pos q, it_70 b T gw ⟨by decide, by decide, by decide⟩ z, Or.inl rfl, rfl, by decide, rfl⟩
      · have q2 : K i = 45 := cc.resolve_left q
        have z := c_70e (d := d + 6) (s := u1 s 0 w) b t (w := Int32.ofNat (tun tu)) (by rw [e]; exact hb) (by rw [e]; exact q2) gw3
        rw [e, tun_n] at z
        exact ⟨45, !tu, 19, if_neg q, it_70 b T gw ⟨by decide, by decide, by decide⟩ z, Or.inr rfl, rfl, by decide, rfl⟩
    rw [eg]
    have hkN : kN < 64 := by omega
    obtain ⟨e4, e5, e6⟩ := e3
    obtain ⟨s1, hs1⟩ : ∃ s1, s1 = u1 (asS (asS (asS (u1 s 0 w) 163 (Int32.ofNat (tun tu))) 167 (Int32.ofNat g)) 164 (Int32.ofNat (tun tu'))) 1 (i + 1) := ⟨_, rfl⟩
    rw [← hs1] at e1
    have F1 : CFx s s1 w (s.1 5) := by
      rw [hs1]
      exact CFx_t (CFx_t (CFx_t (CFx_t (CFx_1 (Or.inl rfl)) (CFx_as (by show w ≤ w; omega))) (CFx_as (by show w ≤ w + 1; omega))) (CFx_as (by show w ≤ w + 2; omega))) (CFx_1 (by omega))
    have a0 : s1.1 0 = w + 3 := by rw [hs1]; rfl
    have a1 : s1.1 1 = i + 1 := by rw [hs1]; rfl
    have a2 : s1.1 2 = dp := by rw [hs1]; exact H.d
    have a4 : s1.1 4 = s.1 4 := by rw [hs1]; rfl
    have a5 : s1.1 5 = s.1 5 := by rw [hs1]; rfl
    have af : s1.2 16 7 = -1 := by rw [hs1]; exact T.f
    have ax : wSt s1 = wSt s := by
      rw [hs1]
      repeat (first | refine (wSt_as (by exact hN)).trans ?_ | refine (wSt_em (by exact hN)).trans ?_ | refine (wSt_pt (by exact hN)).trans ?_ | refine (wSt_1 (by decide)).trans ?_)
      rfl
    have g0 : s1.2 23 w = glI (Int32.ofNat 163) (Int32.ofNat (tun tu)) := by
      rw [hs1, u1_2, as_23, if_neg (by show ¬ w = w + 2; omega), as_23, if_neg (by show ¬ w = w + 1; omega), as_23, if_pos (by show w = w; rfl)]
      rfl
    have g1 : s1.2 23 (w + 1) = glI (Int32.ofNat 167) (Int32.ofNat g) := by
      rw [hs1, u1_2, as_23, if_neg (by show ¬ w + 1 = w + 2; omega), as_23, if_pos (by show w + 1 = w + 1; rfl)]
      rfl
    have g2 : s1.2 23 (w + 2) = glI (Int32.ofNat 164) (Int32.ofNat (tun tu')) := by
      rw [hs1, u1_2, as_23, if_pos (by show w + 2 = w + 2; rfl)]
      rfl
    clear hs1
    have C1 : CHs Bt n m P U s1 lo (i + 1) dp := CHs_f H F1 a1 hi1 a2 (by omega) (by omega)
    have R := H1 (i + 1) dp s1 (w + 2) tu' (by omega) C1 (TOP.of ⟨a0, af, g2, ⟨by decide, tun_b⟩⟩) (by omega) h1 hd2 (by omega)
    have gd := pgX_b (P := P) (V := V) t.M f 1 dp (i + 1) (by decide) hi1
    generalize pgX K P V f 1 dp (i + 1) = r1 at R gd ⊢
    rcases r1 with ⟨j, _ | tt⟩
    · obtain ⟨k1, s2, p2, F2, b2, f2⟩ := R
      have gj : i + 1 ≤ j := gd.1
      exact ⟨1 + k1, s2, PL_t e1 p2, CFx_t F1 (CFx_w F2 (by omega) (by rw [a5]; omega)), by omega, f2⟩
    obtain ⟨gi, gm, gt⟩ := gd
    have gj : i + 1 ≤ j := gi
    have gm' : j < m := gm
    obtain ⟨k1, s2, p2, F2, b2, O2, c2, q2, x2, y2⟩ := R
    have F12 : CFx s s2 w (s.1 5) := CFx_t F1 (CFx_w F2 (by omega) (by rw [a5]; omega))
    have o4 := O2.c
    have o5 := O2.p
    rw [a4] at o4 x2
    rw [a5] at o5
    rw [a4, a5] at y2
    have T2 : TOP s2 (w + 1) 167 g := TOP.of ⟨O2.w, O2.f, (F2.g (w + 1) (by omega)).trans g1, ⟨by decide, by omega⟩⟩
    have p3 := st_op (d := d) b T2 gw1 (by omega)
    obtain ⟨s3, hs3⟩ : ∃ s3, s3 = emS (u1 s2 0 (w + 1)) (Int32.ofNat g) 0 0 := ⟨_, rfl⟩
    rw [← hs3] at p3
    have F3 : CFx s2 s3 (w + 1) (s2.1 5) := by rw [hs3]; exact CFx_t (CFx_1 (Or.inl rfl)) CFx_em
    have b0 : s3.1 0 = w + 1 := by rw [hs3]; rfl
    have b1 : s3.1 1 = j := by rw [hs3]; exact O2.j
    have b2' : s3.1 2 = dp := by rw [hs3]; exact O2.d
    have b4 : s3.1 4 = s.1 4 + cl tt false + 1 := by rw [hs3]; show s2.1 4 + 1 = _; omega
    have b5 : s3.1 5 = s.1 5 + pn tt false := by rw [hs3]; exact o5
    have bf : s3.2 16 7 = -1 := by rw [hs3]; exact O2.f
    have hN2 : 0 < s2.1 8 := by rw [CFx_8 F12]; exact hN
    have bx : wSt s3 = wn (wSt s) (lwT lo tt) := by
      rw [hs3]
      repeat (first | refine (wSt_as (by exact hN2)).trans ?_ | refine (wSt_em (by exact hN2)).trans ?_ | refine (wSt_pt (by exact hN2)).trans ?_ | refine (wSt_1 (by decide)).trans ?_)
      rw [O2.x, ax]
    have b6 : s3.2 6 (3 * (s.1 4 + cl tt false)) = opb kN := by
      have e7 : (u1 s2 0 (w + 1)).1 4 = s.1 4 + cl tt false := o4
      rw [hs3, em_6, e7, if_neg (by omega), if_neg (by omega), if_pos rfl, e4]
    have b23 : s3.2 23 w = glI (Int32.ofNat 163) (Int32.ofNat (tun tu)) := by
      rw [F3.g w (by omega), F2.g w (by omega)]; exact g0
    clear hs3
    have F13 : CFx s s3 w (s.1 5) := CFx_t F12 (CFx_w F3 (by omega) (by omega))
    have C3 : CHs Bt n m P U s3 lo j dp := CHs_f H F13 b1 gm' b2' (by omega) (by omega)
    have T3 : TOP s3 w 163 (tun tu) := TOP.of ⟨b0, bf, b23, ⟨by decide, tun_b⟩⟩
    show RXa (d + 10) h B P lo true 0 2 s w tu i dp (bnd (pgX K P V f 3 dp j) fun r k => (k, some (.branch (tE kN (P i) 0) tt r)))
    have R := H3 j dp s3 w tu (by omega) C3 T3 (by omega) h1 hd2 hw
    have gd := pgX_b (P := P) (V := V) t.M f 3 dp j (by decide) gm'
    generalize pgX K P V f 3 dp j = r3 at R gd ⊢
    rcases r3 with ⟨l, _ | rr⟩
    · obtain ⟨k4, s4, p4, F4, b4', f4⟩ := R
      have gl : j ≤ l := gd.1
      exact ⟨1 + k1 + 1 + k4, s4, PL_t (PL_t (PL_t e1 p2) p3) p4, CFx_t F13 (CFx_w F4 (by omega) (by omega)), by omega, f4⟩
    have gl : j ≤ l := gd.1
    obtain ⟨k4, s4, p4, F4, b4', O4, c4, q4, x4, y4⟩ := R
    have o44 := O4.c
    have o54 := O4.p
    rw [b4] at o44 x4
    rw [b5] at o54
    rw [b4, b5] at y4
    have kk : tK (tE kN (P i) 0) = kN := tE_K hkN
    have F4' : CFx s3 s4 w (s.1 5 + pn tt false) := by rw [← b5]; exact F4
    refine ⟨1 + k1 + 1 + k4, s4, PL_t (PL_t (PL_t e1 p2) p3) p4, CFx_t F13 (CFx_w F4' (by omega) (by omega)), by omega, SOK.of ⟨O4.w, O4.j, O4.d, O4.f, by rw [cl_L]; omega, by rw [pn_L]; omega, ?_⟩, by rw [cl_L]; omega, by rw [pn_L]; omega, ?_, ?_⟩
    · rw [O4.x, bx, wn_fw (lwT_b tt).1, lwT_B, lwN_o (n := tE kN (P i) 0) (by omega) (by omega) (by omega)]
    · rw [cdx_L]
      refine ⟨cdx_f (ts tt) _ _ _ (Nat.le_refl _) (fun y y1 y2' => (F4.c y (by omega)).trans (F3.c y (by omega))) x2, ?_, x4⟩
      rw [F4.c _ (by omega), b6, kk]
    · rw [pax_L, kk, ← e6]
      exact ⟨pax_f (ts tt) _ _ _ _ _ (Nat.le_refl _) (fun y y1 y2' => ⟨(F4'.e 7 y (by omega) (by omega) y2').trans (F3.e 7 y (by omega) (by omega) (by omega)), (F4'.e 8 y (by omega) (by omega) y2').trans (F3.e 8 y (by omega) (by omega) (by omega)), (F4'.e 9 y (by omega) (by omega) y2').trans (F3.e 9 y (by omega) (by omega) (by omega))⟩) y2, y4⟩
  · rw [if_neg cc]
    have p3 := st_nt (d := d) b t H T gw (fun z => cc (Or.inl z)) (fun z => cc (Or.inr z))
    exact ⟨1, u1 s 0 w, p3, CFx_1 (Or.inl rfl), by omega, SOK.of ⟨rfl, H.i, H.d, T.f, rfl, rfl, by rw [wSt_1 (by decide)]; exact wn_0.symm⟩, Nat.zero_le _, Nat.zero_le _, trivial, trivial⟩
theorem x_mf (b : CPB h B n) (t : CTK h B n m Bt K P U V) (H2 : HX2 (d + 10) h B n m Bt K P U V lo f) (H4 : HX4 (d + 10) h B n m Bt K P U V lo f) : HX4 (d + 10) h B n m Bt K P U V lo (f + 1) := by
  intro i dp s w tu fr hf H T hfr hd h1 hd2 hw
  have hb := H.b
  have hN := H.N
  have hm := t.m
  have hc := H.c
  have hp := H.p
  have hn := b.n
  have ht : tun tu < 2 := by cases tu <;> decide
  have gw : w < gL n := gL_w t hb hd hd2 (by omega)
  have gw1 : w + 1 < gL n := gL_w t hb hd hd2 (by omega)
  have gw2 : w + 2 < gL n := gL_w t hb hd hd2 (by omega)
  have gw4 : w + 4 ≤ gL n := gL_w (w := w + 3) t hb hd hd2 (by omega)
  rw [pgX_4]
  by_cases cc : K i = 42 ∨ K i = 47 ∨ K i = 37
  · rw [if_pos cc]
    have hi1 : i + 1 < m := by
      rcases cc with z | z | z
      · exact tkM_s t.M hb z (by decide) (by decide)
      · exact tkM_s t.M hb z (by decide) (by decide)
      · exact tkM_s t.M hb z (by decide) (by decide)
    obtain ⟨g, kN, eg, e1, e2, e4, e5⟩ : ∃ (g : Nat) (kN : Nat), (if K i = 42 then 21 else if K i = 47 then 22 else 23) = kN ∧ PL (d + 10) h B 1 s (u1 (asS (asS (asS (asS (u1 s 0 w) 165 (Int32.ofNat (2 * fr + tun tu))) 169 (Int32.ofNat (2 * fr + tun tu))) 167 (Int32.ofNat g)) 166 0) 1 (i + 1)) ∧ (21 ≤ kN ∧ kN ≤ 23) ∧ Int32.ofNat g = opb kN ∧ g < 256 := by
      have e : (u1 s 0 w).1 1 = i := H.i
      by_cases q : K i = 42
      · have z := c_70h (d := d + 6) (s := u1 s 0 w) b t (w := Int32.ofNat (2 * fr + tun tu)) (k := 42) (by rw [e]; exact hb) (by rw [e]; exact q) (by decide) gw4
        rw [e] at z
        exact ⟨42, 21, if_pos q, it_70 b T gw ⟨by decide, by decide, by decide⟩ z, by decide, rfl, by decide⟩
      · by_cases q2 : K i = 47
        · have z := c_70h (d := d + 6) (s := u1 s 0 w) b t (w := Int32.ofNat (2 * fr + tun tu)) (k := 47) (by rw [e]; exact hb) (by rw [e]; exact q2) (by decide) gw4
          rw [e] at z
          exact ⟨47, 22, by rw [if_neg q, if_pos q2], it_70 b T gw ⟨by decide, by decide, by decide⟩ z, by decide, rfl, by decide⟩
        · have q3 : K i = 37 := (cc.resolve_left q).resolve_left q2
          have z := c_70h (d := d + 6) (s := u1 s 0 w) b t (w := Int32.ofNat (2 * fr + tun tu)) (k := 37) (by rw [e]; exact hb) (by rw [e]; exact q3) (by decide) gw4
          rw [e] at z
          exact ⟨37, 23, by rw [if_neg q, if_neg q2], it_70 b T gw ⟨by decide, by decide, by decide⟩ z, by decide, rfl, by decide⟩
    rw [eg]
    have hkN : kN < 64 := by omega
    obtain ⟨s1, hs1⟩ : ∃ s1, s1 = u1 (asS (asS (asS (asS (u1 s 0 w) 165 (Int32.ofNat (2 * fr + tun tu))) 169 (Int32.ofNat (2 * fr + tun tu))) 167 (Int32.ofNat g)) 166 0) 1 (i + 1) := ⟨_, rfl⟩
    rw [← hs1] at e1
    have F1 : CFx s s1 w (s.1 5) := by
      rw [hs1]
      exact CFx_t (CFx_t (CFx_t (CFx_t (CFx_t (CFx_1 (Or.inl rfl)) (CFx_as (by show w ≤ w; omega))) (CFx_as (by show w ≤ w + 1; omega))) (CFx_as (by show w ≤ w + 2; omega))) (CFx_as (by show w ≤ w + 3; omega))) (CFx_1 (by omega))
    have a0 : s1.1 0 = w + 4 := by rw [hs1]; rfl
    have a1 : s1.1 1 = i + 1 := by rw [hs1]; rfl
    have a2 : s1.1 2 = dp := by rw [hs1]; exact H.d
    have a4 : s1.1 4 = s.1 4 := by rw [hs1]; rfl
    have a5 : s1.1 5 = s.1 5 := by rw [hs1]; rfl
    have af : s1.2 16 7 = -1 := by rw [hs1]; exact T.f
    have ax : wSt s1 = wSt s := by
      rw [hs1]
      repeat (first | refine (wSt_as (by exact hN)).trans ?_ | refine (wSt_em (by exact hN)).trans ?_ | refine (wSt_pt (by exact hN)).trans ?_ | refine (wSt_1 (by decide)).trans ?_)
      rfl
    have g0 : s1.2 23 w = glI (Int32.ofNat 165) (Int32.ofNat (2 * fr + tun tu)) := by
      rw [hs1, u1_2, as_23, if_neg (by show ¬ w = w + 3; omega), as_23, if_neg (by show ¬ w = w + 2; omega), as_23, if_neg (by show ¬ w = w + 1; omega), as_23, if_pos (by show w = w; rfl)]
      rfl
    have g1 : s1.2 23 (w + 1) = glI (Int32.ofNat 169) (Int32.ofNat (2 * fr + tun tu)) := by
      rw [hs1, u1_2, as_23, if_neg (by show ¬ w + 1 = w + 3; omega), as_23, if_neg (by show ¬ w + 1 = w + 2; omega), as_23, if_pos (by show w + 1 = w + 1; rfl)]
      rfl
    have g2 : s1.2 23 (w + 2) = glI (Int32.ofNat 167) (Int32.ofNat g) := by
      rw [hs1, u1_2, as_23, if_neg (by show ¬ w + 2 = w + 3; omega), as_23, if_pos (by show w + 2 = w + 2; rfl)]
      rfl
    have g3 : s1.2 23 (w + 3) = glI (Int32.ofNat 166) (Int32.ofNat (tun false)) := by
      rw [hs1, u1_2, as_23, if_pos (by show w + 3 = w + 3; rfl)]
      rfl
    clear hs1
    have C1 : CHs Bt n m P U s1 lo (i + 1) dp := CHs_f H F1 a1 hi1 a2 (by omega) (by omega)
    have R := H2 (i + 1) dp s1 (w + 3) false (by omega) C1 (TOP.of ⟨a0, af, g3, ⟨by decide, tun_b⟩⟩) (by omega) h1 hd2 (by omega)
    have gd := pgX_b (P := P) (V := V) t.M f 2 dp (i + 1) (by decide) hi1
    generalize pgX K P V f 2 dp (i + 1) = r1 at R gd ⊢
    rcases r1 with ⟨j, _ | tt⟩
    · obtain ⟨k1, s2, p2, F2, b2, f2⟩ := R
      have gj : i + 1 ≤ j := gd.1
      exact ⟨1 + k1, s2, PL_t e1 p2, CFx_w (CFx_t F1 (CFx_w F2 (by omega) (by rw [a5]; omega))) (by omega) hfr, by omega, f2⟩
    obtain ⟨gi, gm, gt⟩ := gd
    have gj : i + 1 ≤ j := gi
    have gm' : j < m := gm
    obtain ⟨k1, s2, p2, F2, b2, O2, c2, q2, x2, y2⟩ := R
    have F12 : CFx s s2 w (s.1 5) := CFx_t F1 (CFx_w F2 (by omega) (by rw [a5]; omega))
    have o4 := O2.c
    have o5 := O2.p
    rw [a4] at o4 x2
    rw [a5] at o5
    clear y2
    have hN2 : 0 < s2.1 8 := by rw [CFx_8 F12]; exact hN
    have T2 : TOP s2 (w + 2) 167 g := TOP.of ⟨O2.w, O2.f, (F2.g (w + 2) (by omega)).trans g2, ⟨by decide, by omega⟩⟩
    have p3 := st_op (d := d) b T2 gw2 (by omega)
    have T3 : TOP (emS (u1 s2 0 (w + 2)) (Int32.ofNat g) 0 0) (w + 1) 169 (2 * fr + tun tu) := TOP.of ⟨rfl, O2.f, (F2.g (w + 1) (by omega)).trans g1, ⟨by decide, by omega⟩⟩
    have p4 := st_mw (d := d) b T3 gw1 (by omega)
    obtain ⟨s4, hs4⟩ : ∃ s4, s4 = ptS (u1 (u1 (emS (u1 s2 0 (w + 2)) (Int32.ofNat g) 0 0) 0 (w + 1)) 5 fr) (kb tu) (-2) := ⟨_, rfl⟩
    rw [← hs4] at p4
    have F4 : CFx s2 s4 (w + 1) fr := by
      rw [hs4]
      exact CFx_t (CFx_t (CFx_t (CFx_t (CFx_1 (Or.inl rfl)) CFx_em) (CFx_1 (Or.inl rfl))) (CFx_1 (by omega))) (CFx_pt (by show fr ≤ fr; omega))
    have b0 : s4.1 0 = w + 1 := by rw [hs4]; rfl
    have b1 : s4.1 1 = j := by rw [hs4]; exact O2.j
    have b2' : s4.1 2 = dp := by rw [hs4]; exact O2.d
    have b4 : s4.1 4 = s.1 4 + cl tt false + 1 := by rw [hs4]; show s2.1 4 + 1 = _; omega
    have b5 : s4.1 5 = fr + 1 := by rw [hs4]; rfl
    have bf : s4.2 16 7 = -1 := by rw [hs4]; exact O2.f
    have bx : wSt s4 = wn (wSt s) (lwT lo tt) := by
      rw [hs4]
      repeat (first | refine (wSt_as (by exact hN2)).trans ?_ | refine (wSt_em (by exact hN2)).trans ?_ | refine (wSt_pt (by exact hN2)).trans ?_ | refine (wSt_1 (by decide)).trans ?_)
      rw [O2.x, ax]
    have b6 : s4.2 6 (3 * (s.1 4 + cl tt false)) = opb kN := by
      have e7 : (u1 s2 0 (w + 2)).1 4 = s.1 4 + cl tt false := o4
      rw [hs4]
      show (emS (u1 s2 0 (w + 2)) (Int32.ofNat g) 0 0).2 6 (3 * (s.1 4 + cl tt false)) = opb kN
      rw [em_6, e7, if_neg (by omega), if_neg (by omega), if_pos rfl, e4]
    have b7 : s4.2 7 fr = Int32.ofNat (s.1 4 + cl tt false + 1) := by
      rw [hs4, pt_7, if_pos (by show fr = fr; rfl)]
      congr 1
      show s2.1 4 + 1 = _
      omega
    have b8 : s4.2 8 fr = kb tu := by rw [hs4, pt_8, if_pos (by show fr = fr; rfl)]
    have b9 : s4.2 9 fr = -2 := by rw [hs4, pt_9, if_pos (by show fr = fr; rfl)]
    have b23 : s4.2 23 w = glI (Int32.ofNat 165) (Int32.ofNat (2 * fr + tun tu)) := by
      rw [F4.g w (by omega), F2.g w (by omega)]; exact g0
    clear hs4
    have F14 : CFx s s4 w fr := CFx_t (CFx_w F12 (by omega) hfr) (CFx_w F4 (by omega) (by omega))
    have C4 : CHs Bt n m P U s4 lo j dp := CHs_f H F14 b1 gm' b2' (by omega) (by omega)
    have T4 : TOP s4 w 165 (2 * fr + tun tu) := TOP.of ⟨b0, bf, b23, ⟨by decide, by omega⟩⟩
    show RXc (d + 10) h B P lo s w fr tu i dp (bnd (pgX K P V f 4 dp j) fun r k => (k, some (.branch (tE kN (P i) 0) tt r)))
    have R := H4 j dp s4 w tu fr (by omega) C4 T4 (by omega) (by omega) h1 hd2 hw
    have gd := pgX_b (P := P) (V := V) t.M f 4 dp j (by decide) gm'
    generalize pgX K P V f 4 dp j = r3 at R gd ⊢
    rcases r3 with ⟨l, _ | rr⟩
    · obtain ⟨k5, s5, p5, F5, b5', f5⟩ := R
      have gl : j ≤ l := gd.1
      exact ⟨1 + k1 + 1 + 1 + k5, s5, PL_t (PL_t (PL_t (PL_t e1 p2) p3) p4) p5, CFx_t F14 F5, by omega, f5⟩
    have gl : j ≤ l := gd.1
    obtain ⟨k5, s5, p5, F5, b5', O5, c5, x5, y5, z5⟩ := R
    have o45 := O5.c
    have o55 := O5.p
    rw [b4] at o45 x5 y5
    have kk : tK (tE kN (P i) 0) = kN := tE_K hkN
    have nz : ¬ ts (.branch (tE kN (P i) 0) tt rr) = 0 := by
      show ¬ 1 + ts tt + ts rr = 0
      omega
    have po : s5.1 5 = fr + 1 := by
      rw [o55]
      split
      · exact b5
      · rfl
    have ecl : cl (.branch (tE kN (P i) 0) tt rr) true = cl tt false + 1 + cl rr true := cl_L
    refine ⟨1 + k1 + 1 + 1 + k5, s5, PL_t (PL_t (PL_t (PL_t e1 p2) p3) p4) p5, CFx_t F14 F5, by omega, SOK.of ⟨O5.w, O5.j, O5.d, O5.f, by omega, by rw [if_neg nz]; exact po, ?_⟩, by omega, ?_, fun _ => ?_, fun z => absurd z nz⟩
    · rw [O5.x, bx, wn_fw (lwT_b tt).1, lwT_B, lwN_o (n := tE kN (P i) 0) (by omega) (by omega) (by omega)]
    · rw [cdx_L]
      refine ⟨cdx_f (ts tt) _ _ _ (Nat.le_refl _) (fun y y1 y2' => (F5.c y (by omega)).trans (F4.c y (by omega))) x2, ?_, x5⟩
      rw [F5.c _ (by omega), b6, kk]
    · by_cases z : ts rr = 0
      · obtain ⟨u, er⟩ := ts_z z
        have F5' := z5 z
        have cz : cl rr true = 0 := by rw [er]; rfl
        rw [F5'.e 7 fr (by omega) (by omega) (by omega), F5'.e 8 fr (by omega) (by omega) (by omega), F5'.e 9 fr (by omega) (by omega) (by omega)]
        exact ⟨by rw [b7, ecl, cz]; rfl, b8, b9⟩
      · obtain ⟨y1, y2, y3⟩ := y5 (by omega)
        exact ⟨by rw [y1, ecl]; congr 1; omega, y2, y3⟩
  · rw [if_neg cc]
    have p3 := st_nf (d := d) b t H T gw cc
    exact ⟨1, u1 s 0 w, p3, CFx_1 (Or.inl rfl), by omega, SOK.of ⟨rfl, H.i, H.d, T.f, rfl, by rw [if_pos (show ts (.leaf () : tr) = 0 from rfl)]; rfl, by rw [wSt_1 (by decide)]; exact wn_0.symm⟩, Nat.zero_le _, trivial, fun z => absurd z (by decide), fun _ => CFx_1 (Or.inl rfl)⟩
end XRs
