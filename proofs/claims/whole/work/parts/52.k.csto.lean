set_option maxRecDepth 100000
/-! the class's parser over statements: NAME [ SUM ] = SUM ; and NAME alone -/
section SOs
variable {d : Nat} {h : mh_H} {B n m : Nat} {Bt : Nat → Int32} {K : Nat → Int32} {P U : Nat → Nat} {V : Nat → Int} {s s1 s2 s3 sb s' : cps} {L : cen} {lo : lkt} {w w0 b i dp N f c j a pp : Nat} {kd p x y : Int32} {o : Option Nat}
theorem wrS_6 {sp : Nat → Nat → Bool} {H : Nat → Int32} {nf nn : Nat} {rl : Bool} {cc t : tr} (h : tK nn = 6) : wrS sp H nf L b rl nn (.branch a cc t) = fw (lkW (loE sp L) (tV a) true, tP a) (lwT (loE sp L) t) := by
  rcases t with _ | ⟨_, _, _⟩
  all_goals
    show (if tK nn = 3 then _ else if tK nn = 4 then _ else if tK nn = 6 then _ else _) = _
    rw [if_neg (by omega), if_neg (by omega), if_pos h]
theorem z_sto (bb : CPB h B n) (t : CTK h B n m Bt K P U V) (hN8 : 8 * m + 6 ≤ N) (H : CHt n m s L b i dp) (T : TOP s w 149 0) (hw : w ≤ 12 * dp) (q : K i = 2) (q1 : K (i + 1) = 91) : RTa (d + 10) h B n m (spe Bt n P U) K P f s w L b i dp 9 (bnd (pgX K P V N 0 (dp + 1) (i + 2)) fun t j => tak K 93 j (tak K 61 (j + 1) (bnd (pgX K P V N 0 (dp + 1) (j + 2)) fun u k => tak K 59 k (k + 1, some (tNd (tE 6 (P i) 0) (.branch (tE 13 (P i) i) (.leaf ()) (tA t u))))))) := by
  have hb := H.j
  have hm := t.m
  have hn := bb.n
  obtain ⟨e1, e2, e3⟩ := H.e
  obtain ⟨l1, l2⟩ := H.l
  obtain ⟨B1, B2⟩ := H.B
  obtain ⟨c4, c5, c6, c7⟩ := H.c
  have hN3 := H.N
  have hF := H.F
  have hP := p16 bb t hb
  have gw : w < gL n := gL_w t hb e3 e2 (by omega)
  have gw1 : w + 1 < gL n := gL_w t hb e3 e2 (by omega)
  have gw2 : w + 2 < gL n := gL_w t hb e3 e2 (by omega)
  have gw9 : w + 10 ≤ gL n := gL_w (w := w + 9) t hb e3 e2 (by omega)
  have hi1 : i + 1 < m := tkM_s t.M hb q (by decide) (by decide)
  have e : (u1 s 0 w).1 1 = i := H.i
  have hi2 : i + 2 < m := tkM_s t.M hi1 q1 (by decide) (by decide)
  have E0 : ∀ x y, SCE (bgS (u1 s 0 w) x y) m L := fun x y => SCE_bg (SCE_1 H.E (by decide))
  have z := c_58g (d := d) (s := u1 s 0 w) bb t (by rw [e]; exact hb) (by rw [e]; exact q) (c_61d (d := d) (s := u1 s 0 w) bb t (by rw [e]; exact hb) (by rw [e]; exact q1) (by show s.1 8 < n / 3 + 2; omega) (SCE_C (E0 _ _) (by omega) hn hm.2) (by show w + 5 ≤ gL n; omega))
  rw [e] at z
  have p1 := it_58 bb T gw z
  have G := BGN_bg (kd := 3) (p := Int32.ofNat (P i)) H T
  have S := SCE_C (n := n) G.E (by omega) hn hm.2
  generalize bgS (u1 s 0 w) 3 (Int32.ofNat (P i)) = sb at p1 G S
  obtain ⟨b4, b5, b6, b7⟩ := G.c
  have b0 := G.w
  have b8 := G.I.n
  have hNb : 0 < sb.1 8 := by omega
  obtain ⟨sn, hsn, n1, n2, nI, nE, nx, n8⟩ := ba_all (Bt := Bt) (P := P) (U := U) (i := i) (pp := P i) S G.I G.E (by omega) (by omega)
  rw [← hsn] at p1
  clear hsn
  have nc : ∀ c, sn.1 c = sb.1 c := fun c => by rw [n1]
  obtain ⟨s1, hs1⟩ : ∃ s1, s1 = asS (asS (asS (asS (asS (u1 sn 1 (i + 2)) 59 0) 161 0) 61 0) 93 0) 161 0 := ⟨_, rfl⟩
  rw [← hs1] at p1
  have m0 := nc 0
  have m7 := nc 7
  have m8 := nc 8
  have hNn : 0 < sn.1 8 := by omega
  have G1 : CGx sn s1 w (sn.1 7) := by
    rw [hs1]
    exact CGx_as' (CGx_as' (CGx_as' (CGx_as' (CGx_as' (CGx_1 (Or.inr (Or.inl rfl)) (Nat.le_refl _)) (by show w ≤ sn.1 0; omega)) (by show w ≤ sn.1 0 + 1; omega)) (by show w ≤ sn.1 0 + 1 + 1; omega)) (by show w ≤ sn.1 0 + 1 + 1 + 1; omega)) (by show w ≤ sn.1 0 + 1 + 1 + 1 + 1; omega)
  have a0 : s1.1 0 = w + 5 := by rw [hs1]; show sn.1 0 + 1 + 1 + 1 + 1 + 1 = _; omega
  have a1 : s1.1 1 = i + 2 := by rw [hs1]; rfl
  have a2 : s1.1 2 = dp := by rw [hs1]; exact (nc 2).trans G.d
  have a4 : s1.1 4 = s.1 4 := by rw [hs1]; exact (nc 4).trans b4
  have a5 : s1.1 5 = s.1 5 := by rw [hs1]; exact (nc 5).trans b5
  have a6 : s1.1 6 = s.1 6 := by rw [hs1]; exact (nc 6).trans b6
  have a7 : s1.1 7 = s.1 7 := by rw [hs1]; exact (nc 7).trans b7
  have af : s1.2 16 7 = -1 := by rw [hs1]; exact (n2 16 7 (by omega)).trans G.f
  have ax : wSt s1 = wn (0, 0) (lkW (loE (spe Bt n P U) L) (i : Int) true, P i) := by
    rw [← G.x, ← nx, hs1]
    repeat (first | refine (wSt_as (by exact hNn)).trans ?_ | refine (wSt_em (by exact hNn)).trans ?_ | refine (wSt_pt (by exact hNn)).trans ?_ | refine (wSt_1 (by decide)).trans ?_)
    rfl
  have g4 : s1.2 23 (w + 4) = glI (Int32.ofNat 161) (Int32.ofNat (tun false)) := by
    rw [hs1, as_23, if_pos (by show w + 4 = sn.1 0 + 1 + 1 + 1 + 1; omega)]
    rfl
  have g3 : s1.2 23 (w + 3) = glI (Int32.ofNat 93) (Int32.ofNat 0) := by
    rw [hs1, as_23, if_neg (by show ¬ w + 3 = sn.1 0 + 1 + 1 + 1 + 1; omega), as_23, if_pos (by show w + 3 = sn.1 0 + 1 + 1 + 1; omega)]
    rfl
  have g2 : s1.2 23 (w + 2) = glI (Int32.ofNat 61) (Int32.ofNat 0) := by
    rw [hs1, as_23, if_neg (by show ¬ w + 2 = sn.1 0 + 1 + 1 + 1 + 1; omega), as_23, if_neg (by show ¬ w + 2 = sn.1 0 + 1 + 1 + 1; omega), as_23, if_pos (by show w + 2 = sn.1 0 + 1 + 1; omega)]
    rfl
  have g1 : s1.2 23 (w + 1) = glI (Int32.ofNat 161) (Int32.ofNat (tun false)) := by
    rw [hs1, as_23, if_neg (by show ¬ w + 1 = sn.1 0 + 1 + 1 + 1 + 1; omega), as_23, if_neg (by show ¬ w + 1 = sn.1 0 + 1 + 1 + 1; omega), as_23, if_neg (by show ¬ w + 1 = sn.1 0 + 1 + 1; omega), as_23, if_pos (by show w + 1 = sn.1 0 + 1; omega)]
    rfl
  have g0 : s1.2 23 w = glI (Int32.ofNat 59) (Int32.ofNat 0) := by
    rw [hs1, as_23, if_neg (by show ¬ w = sn.1 0 + 1 + 1 + 1 + 1; omega), as_23, if_neg (by show ¬ w = sn.1 0 + 1 + 1 + 1; omega), as_23, if_neg (by show ¬ w = sn.1 0 + 1 + 1; omega), as_23, if_neg (by show ¬ w = sn.1 0 + 1; omega), as_23, if_pos (by show w = sn.1 0; omega)]
    rfl
  clear hs1
  have I1 := IST_G nI G1
  have E1 := SCE_G nE G1
  have k8 := I1.n
  have C1 := CHc_of (dp := dp) bb t E1 (i := i + 2) (by omega) (by omega) a1 hi2 a2 (by omega) (by omega) (by omega) (by omega)
  have R := t_ss (d := d) (w := w + 3) (g := 93) (N := N) (tu := false) bb t (by omega) C1 (TOP.of ⟨a0, af, g4, ⟨by decide, tun_b⟩⟩) (by decide) g3 (by omega) e2 (by omega)
  have gd := pgX_b (P := P) (V := V) t.M N 0 (dp + 1) (i + 2) (by decide) hi2
  generalize pgX K P V N 0 (dp + 1) (i + 2) = r1 at R gd ⊢
  rcases r1 with ⟨j, _ | tt⟩
  · have gj : i + 2 ≤ j := gd.1
    exact RTn_C p1 I1.F (by omega) R (by omega)
  have gj : i + 2 ≤ j := gd.1
  have gm' : j < m := gd.2.1
  obtain ⟨nt, ct, htt⟩ := ((gd.2.2 tt rfl).1 rfl).2
  obtain ⟨R1, R2⟩ := R
  show RTa (d + 10) h B n m (spe Bt n P U) K P f s w L b i dp 9 (tak K 93 j (tak K 61 (j + 1) (bnd (pgX K P V N 0 (dp + 1) (j + 2)) fun u k => tak K 59 k (k + 1, some (tNd (tE 6 (P i) 0) (.branch (tE 13 (P i) i) (.leaf ()) (tA tt u)))))))
  by_cases c93 : ¬ K j = 93
  · have e7 : ∀ X, tak K 93 j X = (j, none) := fun X => if_neg c93
    rw [e7]
    exact RTn_C p1 I1.F (by omega) (R1 c93) (by omega)
  have c93 : K j = 93 := Classical.not_not.mp c93
  have hj1 : j + 1 < m := tkM_s t.M gm' c93 (by decide) (by decide)
  have e7 : ∀ X, tak K 93 j X = X := fun X => if_pos c93
  rw [e7]
  obtain ⟨k2, s2, p2, F2, bk2, O2, d4, d5, d6, d7, y2, -, -⟩ := R2 c93
  have F2' : CGx s1 s2 w (s1.1 7) := CGx_w F2 (by omega) (Nat.le_refl _)
  have I2 := IST_G I1 F2'
  have E2 := SCE_G E1 F2'
  have n2' := I2.n
  have o0 := O2.w
  have o1 := O2.j
  have o2 := O2.d
  have T2 : TOP s2 (w + 2) 61 0 := TOP.of ⟨by omega, O2.f, (F2.g (w + 2) (by omega)).trans g2, ⟨by decide, by decide⟩⟩
  by_cases c61 : ¬ K (j + 1) = 61
  · have e8 : ∀ X, tak K 61 (j + 1) X = (j + 1, none) := fun X => if_neg c61
    rw [e8]
    exact RTn_t bb t (PL_t p1 p2) I2.F (by omega) o1 hj1 T2 (by decide) gw2 c61 (by omega) (by omega)
  have c61 : K (j + 1) = 61 := Classical.not_not.mp c61
  have hj2 : j + 2 < m := tkM_s t.M hj1 c61 (by decide) (by decide)
  have e8 : ∀ X, tak K 61 (j + 1) X = X := fun X => if_pos c61
  rw [e8]
  have p3 := st_tk (d := d) bb t o1 hj1 (by decide) T2 gw2 c61
  obtain ⟨s3, hs3⟩ : ∃ s3, s3 = u1 (u1 s2 0 (w + 2)) 1 (j + 1 + 1) := ⟨_, rfl⟩
  rw [← hs3] at p3
  have G3 : CGx s2 s3 w (s2.1 7) := by rw [hs3]; exact CGx_t (CGx_1 (Or.inl rfl) (Nat.le_refl _)) (CGx_1 (Or.inr (Or.inl rfl)) (Nat.le_refl _))
  have i0 : s3.1 0 = w + 2 := by rw [hs3]; rfl
  have i1 : s3.1 1 = j + 2 := by rw [hs3]; rfl
  have i2 : s3.1 2 = dp := by rw [hs3]; exact o2
  have i4 : s3.1 4 = s2.1 4 := by rw [hs3]; rfl
  have i5 : s3.1 5 = s2.1 5 := by rw [hs3]; rfl
  have i6 : s3.1 6 = s2.1 6 := by rw [hs3]; rfl
  have i7 : s3.1 7 = s2.1 7 := by rw [hs3]; rfl
  have ir : s3.2 = s2.2 := by rw [hs3]; rfl
  have ix : wSt s3 = wSt s2 := by rw [hs3, wSt_1 (by decide), wSt_1 (by decide)]
  clear hs3
  have I3 := IST_G I2 G3
  have E3 := SCE_G E2 G3
  have n3 := I3.n
  have p123 := PL_t (PL_t p1 p2) p3
  have C3 := CHc_of (dp := dp) bb t E3 (i := j + 2) (by omega) (by omega) i1 hj2 i2 (by omega) (by omega) (by omega) (by omega)
  have R := t_ss (d := d) (w := w) (g := 59) (N := N) (tu := false) bb t (by omega) C3 (TOP.of ⟨i0, by rw [ir]; exact O2.f, by rw [ir]; exact (F2.g (w + 1) (by omega)).trans g1, ⟨by decide, tun_b⟩⟩) (by decide) (by rw [ir]; exact (F2.g w (by omega)).trans g0) (by omega) e2 (by omega)
  have gd2 := pgX_b (P := P) (V := V) t.M N 0 (dp + 1) (j + 2) (by decide) hj2
  generalize pgX K P V N 0 (dp + 1) (j + 2) = r2 at R gd2 ⊢
  rcases r2 with ⟨l, _ | uu⟩
  · have gl : j + 2 ≤ l := gd2.1
    exact RTn_C p123 I3.F (by omega) R (by omega)
  have gl : j + 2 ≤ l := gd2.1
  have gml : l < m := gd2.2.1
  obtain ⟨R1, R2⟩ := R
  show RTa (d + 10) h B n m (spe Bt n P U) K P f s w L b i dp 9 (tak K 59 l (l + 1, some (tNd (tE 6 (P i) 0) (.branch (tE 13 (P i) i) (.leaf ()) (tA tt uu)))))
  by_cases c59 : ¬ K l = 59
  · have e9 : ∀ X, tak K 59 l X = (l, none) := fun X => if_neg c59
    rw [e9]
    exact RTn_C p123 I3.F (by omega) (R1 c59) (by omega)
  have c59 : K l = 59 := Classical.not_not.mp c59
  have e9 : ∀ X, tak K 59 l X = X := fun X => if_pos c59
  rw [e9]
  obtain ⟨k5, s5, p5, F5, bk5, O5, v4, v5, v6, v7, y5, -, -⟩ := R2 c59
  have I5 := IST_G I3 F5
  have n5 := I5.n
  have q1' := O5.w
  have q2' := O5.j
  have q3' := O5.d
  have kk : tK (tE 6 (P i) 0) = 6 := tE_K (by decide)
  have kp : tP (tE 6 (P i) 0) = P i := tE_P (by decide) hP
  have av : tV (tE 13 (P i) i) = i := tE_V (by decide) hP
  have ap : tP (tE 13 (P i) i) = P i := tE_P (by decide) hP
  generalize tE 13 (P i) i = aN at av ap ⊢
  subst htt
  show RTa (d + 10) h B n m (spe Bt n P U) K P f s w L b i dp 9 (l + 1, some (tNd (tE 6 (P i) 0) (.branch aN (.leaf ()) (.branch nt ct uu))))
  have nxe : nxE (tE 6 (P i) 0) (.branch aN (.leaf ()) (.branch nt ct uu)) L = L := nxE_o (by omega) (by omega)
  have I6 : IST s s5 w (Int32.ofNat (skN (tE 6 (P i) 0))) (Int32.ofNat (tP (tE 6 (P i) 0))) := by rw [skN_o kk (by decide) (by decide), kp]; exact I5
  have e61 : s3.1 6 = s.1 6 + 1 := by omega
  rw [e61] at y5
  rw [a6] at y2
  refine ⟨tE 6 (P i) 0, .branch aN (.leaf ()) (.branch nt ct uu), rfl, _, s5, PL_t p123 p5, I5.F, by omega, TOK.of ⟨q1', q2', q3', O5.f, ⟨by omega, by omega, by omega, by omega⟩, by omega⟩, by rw [nxe]; exact SCE_G E3 F5, by rw [nxe]; omega, ⟨IST_z I6 H.E ?_, Or.inr (Or.inr (Or.inr (Or.inl ⟨kk, aN, .branch nt ct uu, s.1 6, rfl, n5, fun sl z h1 h2 => ?_, I5.f 10 (by omega), SUX_o (SUX_g F5 (SUX_g G3 y2)), y5⟩)))⟩, I5.h.trans (if_neg (fun z => by omega)).symm⟩
  · rw [wrS_6 kk, av, ap, ← wn_fw lkW_b, ← lwT_A, ← ax, O5.x, ix, O2.x]
    rfl
  · rw [av] at h1
    obtain ⟨w1, w2⟩ := n8 sl z h1 h2
    exact ⟨by rw [F5.u _ 8 (by omega) (by omega), G3.u _ 8 (by omega) (by omega), F2.u _ 8 (by omega) (by omega), G1.u _ 8 (by omega) (by omega)]; exact w1, by rw [F5.u _ 9 (by omega) (by omega), G3.u _ 9 (by omega) (by omega), F2.u _ 9 (by omega) (by omega), G1.u _ 9 (by omega) (by omega)]; exact w2⟩
end SOs
