set_option maxRecDepth 100000
/-! the class's parser over statements with BLOCKs: if -/
section IFz
variable {d : Nat} {h : mh_H} {B n m : Nat} {Bt : Nat → Int32} {K : Nat → Int32} {P U : Nat → Nat} {V : Nat → Int} {s s3 s4 s6 : cps} {L : cen} {lo : lkt} {w b i dp N f j l k0 kf kf1 i1 a : Nat} {kd p x y : Int32}
theorem z_if (bb : CPB h B n) (t : CTK h B n m Bt K P U V) (hN8 : 8 * m + 6 ≤ N) (h2 : HB2 (d + 10) h B n m Bt K P U V N f) (hf : 3 * (m - i) ≤ f) (H : CHt n m s L b i dp) (T : TOP s w 149 0) (hw : w ≤ 12 * dp) (q : K i = 6) : RTa (d + 10) h B n m (spe Bt n P U) K P (f + 1) s w L b i dp 9 (tak K 40 (i + 1) (bnd (pgC K P V N N 0 (dp + 1) (i + 2)) fun c j => tak K 41 j (bnd (pgB K P V N f 2 (dp + 1) (j + 1)) fun b k => if K k = 7 then bnd (pgB K P V N f 2 (dp + 1) (k + 1)) fun e l => (l, some (tNd (tE 8 (P i) 0) (tA c (tA b e)))) else (k, some (tNd (tE 8 (P i) 0) (tA c b)))))) := by
  have hb := H.j
  have hm := t.m
  have hn := bb.n
  obtain ⟨e1, e2, e3⟩ := H.e
  obtain ⟨l1, l2⟩ := H.l
  obtain ⟨B1, B2⟩ := H.B
  obtain ⟨c4, c5, c6, c7⟩ := H.c
  have hN3 := H.N
  have hF := H.F
  have hP := p16 bb t hb
  have gw : w < gL n := gL_w t hb e3 e2 (by omega)
  have gw1 : w + 1 < gL n := gL_w t hb e3 e2 (by omega)
  have gw2 : w + 2 < gL n := gL_w t hb e3 e2 (by omega)
  have gw9 : w + 10 ≤ gL n := gL_w (w := w + 9) t hb e3 e2 (by omega)
  have hi1 : i + 1 < m := tkM_s t.M hb q (by decide) (by decide)
  have e : (u1 s 0 w).1 1 = i := H.i
  have ho := H.o
  obtain ⟨Z1, Z2⟩ := z_hd (d := d) (g := 158) (kd := 5) (N := N) (V := V) bb t hN8 H T hw q (by decide) (by decide) (by decide) (fun _ => by
    have z := c_58b (d := d) (s := u1 s 0 w) bb t (by rw [e]; exact hi1) (by rw [e]; exact q) (by show s.1 8 < n / 3 + 2; omega) (by show s.1 3 < 62; omega) (by show w + 5 ≤ gL n; omega)
    rw [e] at z
    exact z)
  by_cases c40 : ¬ K (i + 1) = 40
  · have e6 : ∀ X, tak K 40 (i + 1) X = (i + 1, none) := fun X => if_neg c40
    rw [e6]
    exact Z1 c40
  have c40 : K (i + 1) = 40 := Classical.not_not.mp c40
  have hi2 : i + 2 < m := tkM_s t.M hi1 c40 (by decide) (by decide)
  have e6 : ∀ X, tak K 40 (i + 1) X = X := fun X => if_pos c40
  rw [e6]
  have R := Z2 c40
  have gd := (pgC_b (P := P) (V := V) (N := N) t.M N 0 (dp + 1) (i + 2) (by decide) hi2).1
  generalize pgC K P V N N 0 (dp + 1) (i + 2) = q1 at R gd ⊢
  rcases q1 with ⟨j, _ | tt⟩
  · exact R
  have gj : i + 2 ≤ j := gd.1
  have gm' : j < m := gd.2.1
  obtain ⟨-, nt, ct, htt⟩ := (gd.2.2 tt rfl).1 rfl
  obtain ⟨R1, R2⟩ := R
  show RTa (d + 10) h B n m (spe Bt n P U) K P (f + 1) s w L b i dp 9 (tak K 41 j (bnd (pgB K P V N f 2 (dp + 1) (j + 1)) fun b k => if K k = 7 then bnd (pgB K P V N f 2 (dp + 1) (k + 1)) fun e l => (l, some (tNd (tE 8 (P i) 0) (tA tt (tA b e)))) else (k, some (tNd (tE 8 (P i) 0) (tA tt b)))))
  by_cases c41 : ¬ K j = 41
  · have e7 : ∀ X, tak K 41 j X = (j, none) := fun X => if_neg c41
    rw [e7]
    exact R1 c41
  have c41 : K j = 41 := Classical.not_not.mp c41
  have hj1 : j + 1 < m := tkM_s t.M gm' c41 (by decide) (by decide)
  have e7 : ∀ X, tak K 41 j X = X := fun X => if_pos c41
  rw [e7]
  obtain ⟨k1, s3, c1, p1, bk1, I3, H3, D⟩ := R2 c41
  have R := h2 (j + 1) dp s3 (w + 1) L (by omega) H3 D.T (by omega)
  have gd2 := (pgB_b (P := P) (V := V) (N := N) t.M f 2 (dp + 1) (j + 1) (by decide) hj1).1
  generalize pgB K P V N f 2 (dp + 1) (j + 1) = q2 at R gd2 ⊢
  rcases q2 with ⟨l, _ | bt⟩
  · have gl : j + 1 ≤ l := gd2.1
    exact RTn_O p1 I3 R (by omega)
  have gl : j + 1 ≤ l := gd2.1
  have glm : l < m := gd2.2.1
  obtain ⟨nb, bs, hbt, k2, s4, p2, F4, bk2, O4, E4, st4, h154⟩ := R
  subst hbt
  subst htt
  have a9 := I3.a 9 (by omega)
  have b3 := I3.b
  have dn := D.n
  have dz := D.z
  obtain ⟨d4, d5, d6, d7⟩ := D.c
  obtain ⟨v4, v5, v6, v7⟩ := O4.c
  have v8 := O4.N
  have fm := F4.m
  have f47 := F4.R.m.2.2.2
  rw [a9] at h154 st4
  rw [dn] at st4
  have I4 := IOT_S I3 (CSx_w F4 (by omega : w ≤ w + 1)) h154
  have b4 := I4.b
  have kk : tK (tE 8 (P i) 0) = 8 := tE_K (by decide)
  have kp : tP (tE 8 (P i) 0) = P i := tE_P (by decide) hP
  have sk : skN (tE 8 (P i) 0) = 5 := skN_o kk (by decide) (by decide)
  have oj := O4.j
  have od := O4.d
  have m4 := I4.m
  have T4 : TOP s4 w 158 0 := TOP.of ⟨O4.w, O4.f, (F4.g w (by omega)).trans D.g, ⟨by decide, by decide⟩⟩
  have e4 : (u1 s4 0 w).1 1 = l := O4.j
  have t17 : s4.2 17 (s4.1 3 - 1) = Int32.ofNat (s.1 8) := by rw [show s4.1 3 - 1 = s.1 3 from by omega]; exact I4.t
  have J := IOT_x (j := 15) (x := Int32.ofNat (s4.1 8)) (IOT_S (s2 := u1 s4 0 w) I4 (CSx_1 (by decide)) rfl) (by decide)
  show RTa (d + 10) h B n m (spe Bt n P U) K P (f + 1) s w L b i dp 9 (if K l = 7 then bnd (pgB K P V N f 2 (dp + 1) (l + 1)) fun e y => (y, some (tNd (tE 8 (P i) 0) (.branch nt ct (.branch nb bs e)))) else (l, some (tNd (tE 8 (P i) 0) (.branch nt ct (.branch nb bs (.leaf ()))))))
  by_cases c7 : K l = 7
  · rw [if_pos c7]
    have hl1 : l + 1 < m := tkM_s t.M glm c7 (by decide) (by decide)
    have p5 := it_66 (d := d + 9) bb T4 gw (by decide) (c_66q (d := d + 3) (s := u1 s4 0 w) bb t (x := s.1 8) (by rw [e4]; exact glm) (by show 1 ≤ s4.1 3 ∧ s4.1 3 ≤ 62; omega) t17 m4 (by show s4.1 8 ≤ _; omega) (by rw [e4]; exact c7) (by show w + 2 ≤ gL n; omega))
    rw [e4] at p5
    obtain ⟨s5, hs5⟩ : ∃ s5, s5 = asS (u1 (asS (u2 (u1 s4 0 w) (24 + s.1 8) 15 (Int32.ofNat (s4.1 8))) 159 0) 1 (l + 1)) 147 0 := ⟨_, rfl⟩
    have e5 : asS (u1 (asS (u2 (u1 s4 0 w) (24 + s.1 8) 15 (Int32.ofNat ((u1 s4 0 w).1 8))) 159 0) 1 (l + 1)) 147 0 = s5 := by rw [hs5]; rfl
    rw [e5] at p5
    have row : ∀ z k, ¬ (z = 23 ∧ (k = w ∨ k = w + 1)) → ¬ (z = 24 + s.1 8 ∧ k = 15) → s5.2 z k = s4.2 z k := fun z k h1 h2 => by
      rw [hs5]
      show (if z = 23 ∧ k = w + 1 then _ else if z = 23 ∧ k = w then _ else if z = 24 + s.1 8 ∧ k = 15 then _ else s4.2 z k) = _
      rw [if_neg (by omega), if_neg (by omega), if_neg h2]
    have as2 : ∀ (S : cps) g y o k, o ≠ 23 → (asS S g y).2 o k = S.2 o k := fun S g y o k ho => by unfold asS; rw [u1_2, u2_2, if_neg (fun z => ho z.1)]
    have r15 : s5.2 (24 + s.1 8) 15 = Int32.ofNat (s4.1 8) := by rw [hs5, as2 _ _ _ _ _ (by omega), u1_2, as2 _ _ _ _ _ (by omega), u2_2, if_pos ⟨rfl, rfl⟩]
    have g1 : s5.2 23 (w + 1) = glI (Int32.ofNat 147) (Int32.ofNat 0) := by
      rw [hs5, as_23, if_pos (by show w + 1 = w + 1; rfl)]
      rfl
    have g0 : s5.2 23 w = glI (Int32.ofNat 159) (Int32.ofNat 0) := by
      rw [hs5, as_23, if_neg (by show ¬ w = w + 1; omega), u1_2, as_23, if_pos (by show w = w; rfl)]
      rfl
    have q0 : s5.1 0 = w + 2 := by rw [hs5]; rfl
    have q1 : s5.1 1 = l + 1 := by rw [hs5]; rfl
    have qc : ∀ c, c ≠ 0 → c ≠ 1 → s5.1 c = s4.1 c := fun c h0 h1 => by rw [hs5, as_1 h0, u1_1, if_neg h1, as_1 h0, u2_1, u1_1, if_neg h0]
    have I5 : IOT s s5 w 5 (Int32.ofNat (P i)) := by
      rw [hs5]
      exact IOT_S J (CSx_as' (CSx_t (CSx_as' CSx_id (Nat.le_refl _)) (CSx_1 (by decide))) (by show w ≤ w + 1; omega)) rfl
    have E5 : SCE s5 m L := by rw [hs5]; exact SCE_as (SCE_1 (SCE_as (SCE_2 (SCE_1 E4 (by decide)) (by omega))) (by decide))
    clear hs5 e5
    have q2 := qc 2 (by decide) (by decide)
    have q3 := qc 3 (by decide) (by decide)
    have q4 := qc 4 (by decide) (by decide)
    have q5 := qc 5 (by decide) (by decide)
    have q6 := qc 6 (by decide) (by decide)
    have q7 := qc 7 (by decide) (by decide)
    have q8 := qc 8 (by decide) (by decide)
    have q9 := qc 9 (by decide) (by decide)
    have q11 := qc 11 (by decide) (by decide)
    have w9 := I5.a 9 (by omega)
    have w11 := I5.a 11 (by omega)
    have CR45 : CRx s4 s5 (s4.1 7) := ⟨⟨by omega, by omega, by omega, by omega⟩, fun _ _ => row _ _ (by omega) (by omega), fun z _ h1 h2 _ => row _ _ (by omega) (by omega), fun z _ h1 _ => row _ _ (by omega) (by omega), fun hh => absurd hh (by omega), fun _ => ⟨q4, q5⟩, fun z _ h1 _ => row _ _ (by omega) (by omega)⟩
    have R := h2 (l + 1) dp s5 (w + 1) L (by omega) (CHb.of ⟨q1, hl1, by omega, ⟨e1, e2, by omega⟩, E5, by omega, by omega, ⟨by omega, by omega, by omega, by omega⟩, by omega, by omega, by rw [w9]; exact H.F, fun y hy => by
      have := H.H y (by omega)
      unfold nmH at this ⊢
      rw [I5.h]
      exact this⟩) (TOP.of ⟨q0, (row 16 7 (by omega) (by omega)).trans O4.f, g1, ⟨by decide, by decide⟩⟩) (by omega)
    have gd3 := (pgB_b (P := P) (V := V) (N := N) t.M f 2 (dp + 1) (l + 1) (by decide) hl1).1
    generalize pgB K P V N f 2 (dp + 1) (l + 1) = q3' at R gd3 ⊢
    have p125 := PL_t (PL_t p1 p2) p5
    rcases q3' with ⟨y, _ | et⟩
    · have gy : l + 1 ≤ y := gd3.1
      exact RTn_O p125 I5 R (by omega)
    have gy : l + 1 ≤ y := gd3.1
    have gym : y < m := gd3.2.1
    obtain ⟨nb2, bs2, het, k3, s6, p6, F6, bk3, O6, E6, st6, h156⟩ := R
    subst het
    obtain ⟨t4, t5, t6, t7⟩ := O6.c
    have t8 := O6.N
    have fm6 := F6.m
    have f67 := F6.R.m.2.2.2
    rw [w9] at h156 st6
    rw [q8] at st6
    have I6 := IOT_S I5 (CSx_w F6 (by omega : w ≤ w + 1)) h156
    have b6 := I6.b
    obtain ⟨s7, p7, F7, w7, c7', r7, r716, R7, f7, h7⟩ := z_end (d := d) bb (TOP.of ⟨O6.w, O6.f, (F6.g w (by omega)).trans g0, ⟨by decide, by decide⟩⟩) gw I6 (by omega) (by omega)
    have x1 := c7' 1 (by decide) (by decide)
    have x2 := c7' 2 (by decide) (by decide)
    have x4 := c7' 4 (by decide) (by decide)
    have x5 := c7' 5 (by decide) (by decide)
    have x6 := c7' 6 (by decide) (by decide)
    have x7 := c7' 7 (by decide) (by decide)
    have x8 := c7' 8 (by decide) (by decide)
    have oj6 := O6.j
    have od6 := O6.d
    have nxe : nxE (tE 8 (P i) 0) (.branch nt ct (.branch nb bs (.branch nb2 bs2 (.leaf ())))) L = L := nxE_o (by omega) (by omega)
    have CR47 : CRx s4 s7 (s4.1 7) := CRx_t CR45 (CRx_t (CRx_w F6.R (by omega)) (CRx_w R7 (by omega)))
    have u35 : ∀ k, k ≠ 16 → k ≠ 15 → s7.2 (24 + s.1 8) k = s3.2 (24 + s.1 8) k := fun k h1 h2 => (((r7 _ _ (by omega)).trans (F6.u _ _ (by omega))).trans (row _ _ (by omega) (by omega))).trans (F4.u _ _ (by omega))
    refine ⟨tE 8 (P i) 0, .branch nt ct (.branch nb bs (.branch nb2 bs2 (.leaf ()))), rfl, k1 + k2 + 1 + k3 + 1, s7, PL_t (PL_t p125 p6) p7, F7, by omega, TOK.of ⟨w7, by omega, by omega, by rw [r7 16 7 (by omega)]; exact O6.f, ⟨by omega, by omega, by omega, by omega⟩, by omega⟩, by rw [nxe]; exact SCE_g E6 (c7' 10 (by decide) (by decide)) (c7' 12 (by decide) (by decide)) (c7' 13 (by decide) (by decide)) (fun z k h1 h2 h3 => r7 z k (by omega)), by rw [nxe]; omega, ⟨⟨by rw [f7 0 (by omega), sk]; rfl, f7 1 (by omega), by rw [f7 2 (by omega), kp]; rfl, ?_, ?_, ?_⟩, ?_⟩, (h7 _).trans (if_neg (fun z => by omega)).symm⟩
    · rw [f7 3 (by omega)]
      show Int32.ofNat (s.1 12) = _
      rw [H.E.z]
    · rw [f7 4 (by omega)]
      show Int32.ofNat (s.1 13) = _
      rw [H.E.a]
    · rw [wrS_b (Or.inl kk), u35 5 (by decide) (by decide), u35 6 (by decide) (by decide)]
      exact D.x
    · refine Or.inr (Or.inr (Or.inr (Or.inr (Or.inr (Or.inl ⟨kk, nt, ct, nb, bs, .branch nb2 bs2 (.leaf ()), s4.1 8, s.1 7, c1, rfl, f7 12 (by omega), (u35 13 (by decide) (by decide)).trans D.y, by omega, cy_r (CRx_t F4.R (CRx_w CR47 (by omega))) dz D.w, ((r7 _ _ (by omega)).trans (F6.u _ _ (by omega))).trans r15, by rw [x8]; exact r716, ?_, Or.inr ⟨nb2, bs2, rfl, ?_⟩⟩)))))
      · show stR (spe Bt n P U) s7 (s.1 9) (f + 1) false bs (s.1 8 + 1) (s4.1 8) L 0
        exact stR_h (s := s4) (k0 := s.1 8 + 1) CR47 (fun z k h1 h2 => ((r7 _ _ (by omega)).trans (F6.u _ _ (by omega))).trans (row _ _ (by omega) (by omega))) (fun k _ => (h7 k).trans (I4.h k).symm) (f + 1) false bs _ _ _ _ (Nat.le_refl _) (Nat.le_refl _) (stR_m f false bs _ _ _ _ (Nat.le_refl _) st4)
      · show stR (spe Bt n P U) s7 (s.1 9) (f + 1) false bs2 (s4.1 8) (s7.1 8) L 0
        rw [x8]
        exact stR_h (k0 := s4.1 8) R7 (fun z k h1 _ => r7 _ _ (by omega)) (fun k _ => r7 _ _ (by omega)) (f + 1) false bs2 _ _ _ _ (Nat.le_refl _) (Nat.le_refl _) (stR_m f false bs2 _ _ _ _ (Nat.le_refl _) st6)
  · rw [if_neg c7]
    have p5 := it_66 (d := d + 9) bb T4 gw (by decide) (c_66p (d := d + 3) (s := u1 s4 0 w) bb t (x := s.1 8) (by rw [e4]; exact glm) (by show 1 ≤ s4.1 3 ∧ s4.1 3 ≤ 62; omega) t17 m4 (by show s4.1 8 ≤ _; omega) (by rw [e4]; exact c7) (by show w + 1 ≤ gL n; omega))
    obtain ⟨s5, hs5⟩ : ∃ s5, s5 = asS (u2 (u1 s4 0 w) (24 + s.1 8) 15 (Int32.ofNat (s4.1 8))) 159 0 := ⟨_, rfl⟩
    have e5 : asS (u2 (u1 s4 0 w) (24 + s.1 8) 15 (Int32.ofNat ((u1 s4 0 w).1 8))) 159 0 = s5 := by rw [hs5]; rfl
    rw [e5] at p5
    have row : ∀ z k, ¬ (z = 23 ∧ k = w) → ¬ (z = 24 + s.1 8 ∧ k = 15) → s5.2 z k = s4.2 z k := fun z k h1 h2 => by
      rw [hs5]
      show (if z = 23 ∧ k = w then _ else if z = 24 + s.1 8 ∧ k = 15 then _ else s4.2 z k) = _
      rw [if_neg h1, if_neg h2]
    have as2 : ∀ (S : cps) g y o k, o ≠ 23 → (asS S g y).2 o k = S.2 o k := fun S g y o k ho => by unfold asS; rw [u1_2, u2_2, if_neg (fun z => ho z.1)]
    have r15 : s5.2 (24 + s.1 8) 15 = Int32.ofNat (s4.1 8) := by rw [hs5, as2 _ _ _ _ _ (by omega), u2_2, if_pos ⟨rfl, rfl⟩]
    have g0 : s5.2 23 w = glI (Int32.ofNat 159) (Int32.ofNat 0) := by
      rw [hs5, as_23, if_pos (by show w = w; rfl)]
      rfl
    have q0 : s5.1 0 = w + 1 := by rw [hs5]; rfl
    have qc : ∀ c, c ≠ 0 → s5.1 c = s4.1 c := fun c h0 => by rw [hs5, as_1 h0, u2_1, u1_1, if_neg h0]
    have I5 : IOT s s5 w 5 (Int32.ofNat (P i)) := by
      rw [hs5]
      exact IOT_S J (CSx_as' CSx_id (Nat.le_refl _)) rfl
    have E5 : SCE s5 m L := by rw [hs5]; exact SCE_as (SCE_2 (SCE_1 E4 (by decide)) (by omega))
    clear hs5 e5
    have q1 := qc 1 (by decide)
    have q2 := qc 2 (by decide)
    have q4 := qc 4 (by decide)
    have q5 := qc 5 (by decide)
    have q6 := qc 6 (by decide)
    have q7 := qc 7 (by decide)
    have q8 := qc 8 (by decide)
    have b5 := I5.b
    have CR45 : CRx s4 s5 (s4.1 7) := ⟨⟨by omega, by omega, by omega, by omega⟩, fun _ _ => row _ _ (by omega) (by omega), fun z _ h1 h2 _ => row _ _ (by omega) (by omega), fun z _ h1 _ => row _ _ (by omega) (by omega), fun hh => absurd hh (by omega), fun _ => ⟨q4, q5⟩, fun z _ h1 _ => row _ _ (by omega) (by omega)⟩
    obtain ⟨s7, p7, F7, w7, c7', r7, r716, R7, f7, h7⟩ := z_end (d := d) bb (TOP.of ⟨q0, (row 16 7 (by omega) (by omega)).trans O4.f, g0, ⟨by decide, by decide⟩⟩) gw I5 (by omega) (by omega)
    have x1 := c7' 1 (by decide) (by decide)
    have x2 := c7' 2 (by decide) (by decide)
    have x4 := c7' 4 (by decide) (by decide)
    have x5 := c7' 5 (by decide) (by decide)
    have x6 := c7' 6 (by decide) (by decide)
    have x7 := c7' 7 (by decide) (by decide)
    have x8 := c7' 8 (by decide) (by decide)
    have nxe : nxE (tE 8 (P i) 0) (.branch nt ct (.branch nb bs (.leaf ()))) L = L := nxE_o (by omega) (by omega)
    have CR47 : CRx s4 s7 (s4.1 7) := CRx_t CR45 (CRx_w R7 (by omega))
    have u35 : ∀ k, k ≠ 16 → k ≠ 15 → s7.2 (24 + s.1 8) k = s3.2 (24 + s.1 8) k := fun k h1 h2 => ((r7 _ _ (by omega)).trans (row _ _ (by omega) (by omega))).trans (F4.u _ _ (by omega))
    refine ⟨tE 8 (P i) 0, .branch nt ct (.branch nb bs (.leaf ())), rfl, k1 + k2 + 1 + 1, s7, PL_t (PL_t (PL_t p1 p2) p5) p7, F7, by omega, TOK.of ⟨w7, by omega, by omega, by rw [r7 16 7 (by omega), row 16 7 (by omega) (by omega)]; exact O4.f, ⟨by omega, by omega, by omega, by omega⟩, by omega⟩, by rw [nxe]; exact SCE_g E5 (c7' 10 (by decide) (by decide)) (c7' 12 (by decide) (by decide)) (c7' 13 (by decide) (by decide)) (fun z k h1 h2 h3 => r7 z k (by omega)), by rw [nxe]; omega, ⟨⟨by rw [f7 0 (by omega), sk]; rfl, f7 1 (by omega), by rw [f7 2 (by omega), kp]; rfl, ?_, ?_, ?_⟩, ?_⟩, (h7 _).trans (if_neg (fun z => by omega)).symm⟩
    · rw [f7 3 (by omega)]
      show Int32.ofNat (s.1 12) = _
      rw [H.E.z]
    · rw [f7 4 (by omega)]
      show Int32.ofNat (s.1 13) = _
      rw [H.E.a]
    · rw [wrS_b (Or.inl kk), u35 5 (by decide) (by decide), u35 6 (by decide) (by decide)]
      exact D.x
    · refine Or.inr (Or.inr (Or.inr (Or.inr (Or.inr (Or.inl ⟨kk, nt, ct, nb, bs, .leaf (), s4.1 8, s.1 7, c1, rfl, f7 12 (by omega), (u35 13 (by decide) (by decide)).trans D.y, by omega, cy_r (CRx_t F4.R (CRx_w CR47 (by omega))) dz D.w, (r7 _ _ (by omega)).trans r15, by rw [x8]; exact r716, ?_, Or.inl ⟨rfl, by omega⟩⟩)))))
      show stR (spe Bt n P U) s7 (s.1 9) (f + 1) false bs (s.1 8 + 1) (s4.1 8) L 0
      exact stR_h (s := s4) (k0 := s.1 8 + 1) CR47 (fun z k h1 h2 => (r7 _ _ (by omega)).trans (row _ _ (by omega) (by omega))) (fun k _ => (h7 k).trans (I4.h k).symm) (f + 1) false bs _ _ _ _ (Nat.le_refl _) (Nat.le_refl _) (stR_m f false bs _ _ _ _ (Nat.le_refl _) st4)
end IFz
