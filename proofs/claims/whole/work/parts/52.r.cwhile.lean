set_option maxRecDepth 100000
/-! the class's parser over statements with BLOCKs: while -/
section STh
variable {sp : Nat → Nat → Bool} {s s' : cps} {nf w : Nat} {L : cen} {lo : lkt}
theorem stN_h {k0 : Nat} {rec rec' : tr → Nat → Nat → cen → Prop} {n k k' b : Nat} {cs : tr} {rl : Bool} (F : CRx s s' (s.1 7)) (hu : ∀ x j, k0 ≤ x → x < s.1 8 → s'.2 (24 + x) j = s.2 (24 + x) j) (hh : ∀ j, j < 6 * nf → s'.2 15 j = s.2 15 j) (hr : ∀ t x y M, rec t x y M → x ≤ y) (hg : ∀ t x y M, k0 ≤ x → y ≤ s.1 8 → rec t x y M → rec' t x y M) (h0 : k0 ≤ k) (hk : k' ≤ s.1 8) (w : stN sp s nf rec n cs k k' L b rl) : stN sp s' nf rec' n cs k k' L b rl := by
  have hlt := stN_le hr w
  have h7 := F.m.2.2.2
  have e : ∀ j, s'.2 (24 + k) j = s.2 (24 + k) j := fun j => hu k j h0 (by omega)
  obtain ⟨⟨w0, w1, w2, w3, w4, w5⟩, w⟩ := w
  have ef : ∀ i, fmH sp (s'.2 15) nf i = fmH sp (s.2 15) nf i := fun i => fmH_c hh
  refine ⟨⟨(e 0).trans w0, (e 1).trans w1, (e 2).trans w2, (e 3).trans w3, (e 4).trans w4, by rw [e 5, e 6, wrS_c hh]; exact w5⟩, ?_⟩
  rcases w with ⟨kk, a, t, e1, e2, e3, e4, e5⟩ | ⟨kk, a, q, e1, e2, e3, e4⟩ | ⟨kk, a, t, x, e1, e2, e3, e4, e5⟩ | ⟨kk, a, t, x, e1, e2, e3, e4, e5, e6⟩ | ⟨kk, a, f, t, x, e1, e2, e3, e4, e5, e6, e7⟩ | ⟨kk, c, cc, b1, bs1, q, k1, c0, c1, e1, e2, e3, e4, e5, e6, e7, r1, r2⟩ | ⟨kk, c, cc, b1, bs1, c0, c1, e1, e2, e3, e4, e5, e6, r1⟩ | ⟨kk, c0, c1, e1, e2, e3, e4, e5⟩ | ⟨kk, x, e1, e2, e3⟩
  · refine Or.inl ⟨kk, a, t, e1, e2, (e 7).trans e3, (e 9).trans e4, ?_⟩
    rcases e5 with ⟨y1, y2⟩ | ⟨y1, y2, x, y3, y4⟩
    · exact Or.inl ⟨y1, (e 11).trans y2⟩
    · exact Or.inr ⟨y1, (e 11).trans y2, x, (e 10).trans y3, SUX_r F y4⟩
  · exact Or.inr (Or.inl ⟨kk, a, q, e1, e2, (e 7).trans e3, (e 9).trans e4⟩)
  · exact Or.inr (Or.inr (Or.inl ⟨kk, a, t, x, e1, e2, (e 8).trans e3, (e 10).trans e4, SUX_r F e5⟩))
  · exact Or.inr (Or.inr (Or.inr (Or.inl ⟨kk, a, t, x, e1, e2, fun sl z h1 h2 => ⟨(e 8).trans (e3 sl z h1 h2).1, (e 9).trans (e3 sl z h1 h2).2⟩, (e 10).trans e4, SUX_r F e5, SUX_r F e6⟩)))
  · exact Or.inr (Or.inr (Or.inr (Or.inr (Or.inl ⟨kk, a, f, t, x, e1, e2, (e 8).trans e3, by rw [ef]; exact (e 14).trans e4, (e 11).trans e5, (e 10).trans e6, suMR_r t x F e7⟩))))
  · refine Or.inr (Or.inr (Or.inr (Or.inr (Or.inr (Or.inl ⟨kk, c, cc, b1, bs1, q, k1, c0, c1, e1, (e 12).trans e2, (e 13).trans e3, by omega, cy_r F e4 e5, (e 15).trans e6, (e 16).trans e7, ?_, ?_⟩)))))
    · refine hg _ _ _ _ (by omega) ?_ r1
      rcases r2 with ⟨-, z⟩ | ⟨b2, bs2, -, r2⟩
      · omega
      · have := hr _ _ _ _ r2; omega
    · rcases r2 with ⟨z0, z⟩ | ⟨b2, bs2, z0, r2⟩
      · exact Or.inl ⟨z0, z⟩
      · exact Or.inr ⟨b2, bs2, z0, hg _ _ _ _ (by have := hr _ _ _ _ r1; omega) hk r2⟩
  · exact Or.inr (Or.inr (Or.inr (Or.inr (Or.inr (Or.inr (Or.inl ⟨kk, c, cc, b1, bs1, c0, c1, e1, (e 12).trans e2, (e 13).trans e3, by omega, cy_r F e4 e5, (e 16).trans e6, hg _ _ _ _ (by omega) hk r1⟩))))))
  · exact Or.inr (Or.inr (Or.inr (Or.inr (Or.inr (Or.inr (Or.inr (Or.inl ⟨kk, c0, c1, e1, (e 12).trans e2, (e 13).trans e3, by omega, cy_r F e4 e5⟩)))))))
  · exact Or.inr (Or.inr (Or.inr (Or.inr (Or.inr (Or.inr (Or.inr (Or.inr ⟨kk, x, e1, (e 10).trans e2, SUX_r F e3⟩)))))))
theorem stR_h {k0 : Nat} (F : CRx s s' (s.1 7)) (hu : ∀ x j, k0 ≤ x → x < s.1 8 → s'.2 (24 + x) j = s.2 (24 + x) j) (hh : ∀ j, j < 6 * nf → s'.2 15 j = s.2 15 j) : ∀ f fb t k k' L b, k0 ≤ k → k' ≤ s.1 8 → stR sp s nf f fb t k k' L b → stR sp s' nf f fb t k k' L b := by
  intro f
  induction f with
  | zero =>
    intro fb t k k' L b h0 hk w
    cases t with
    | leaf _ => exact w
    | branch n cs r => exact absurd w (fun z => z)
  | succ f ih =>
    intro fb t k k' L b h0 hk w
    cases t with
    | leaf _ => exact w
    | branch n cs r =>
      obtain ⟨k1, w1, w2⟩ := w
      have h2 := stR_le f fb r k1 k' _ _ w2
      have h1 := stN_le (fun t x y M z => stR_le f false t x y M 0 z) w1
      exact ⟨k1, stN_h F hu hh (fun t x y M z => stR_le f false t x y M 0 z) (fun t x y M hx hy z => ih false t x y M 0 hx hy z) h0 (by omega) w1, ih fb r k1 k' _ _ (by omega) hk w2⟩
end STh
section WLz
variable {d : Nat} {h : mh_H} {B n m : Nat} {Bt : Nat → Int32} {K : Nat → Int32} {P U : Nat → Nat} {V : Nat → Int} {s s3 s4 s6 : cps} {L : cen} {lo : lkt} {w b i dp N f j l k0 kf kf1 i1 a : Nat} {kd p x y : Int32}
theorem RTn_O (p1 : PL d h B k0 s s3) (I : IOT s s3 w kd p) (R : RTn d h B n P s3 i1 j kf1) (hk : k0 + (30 * (j - i1) + kf1) ≤ 30 * (j - i) + kf) : RTn d h B n P s i j kf := by
  obtain ⟨k1, s2, p2, F2, b2, f2, f3⟩ := R
  have a9 := I.a 9 (by omega)
  have hm := I.m
  have fa := F2.a
  obtain ⟨fm1, fm2⟩ := F2.m
  exact ⟨k0 + k1, s2, PL_t p1 p2, CVx.of ⟨by omega, fun y hy => (F2.h y (by omega)).trans (I.h y), ⟨by omega, fm2⟩⟩, by omega, f2, f3⟩
theorem wrS_b {sp : Nat → Nat → Bool} {H : Nat → Int32} {nf nn : Nat} {rl : Bool} {cc t : tr} (h : tK nn = 8 ∨ tK nn = 9) : wrS sp H nf L b rl nn (.branch a cc t) = lwT (loE sp L) (.branch a cc (.leaf ())) := by
  rcases t with _ | ⟨_, _, _⟩
  all_goals
    show (if tK nn = 3 then _ else if tK nn = 4 then _ else if tK nn = 6 then _ else if tK nn = 7 then _ else if tK nn = 8 ∨ tK nn = 9 then _ else _) = _
    rw [if_neg (by omega), if_neg (by omega), if_neg (by omega), if_neg (by omega), if_pos h]
/-- BLOCKS_DONE -/
theorem z_end (bb : CPB h B n) (T : TOP s6 w 159 0) (gw : w < gL n) (I : IOT s s6 w kd p) (h3 : s6.1 3 ≤ 62) (h8 : s6.1 8 ≤ n / 3 + 2) : ∃ s7, PL (d + 10) h B 1 s6 s7 ∧ CSx s s7 w ∧ s7.1 0 = w ∧ (∀ c, c ≠ 0 → c ≠ 3 → s7.1 c = s6.1 c) ∧ (∀ z k, ¬ (z = 24 + s.1 8 ∧ k = 16) → s7.2 z k = s6.2 z k) ∧ s7.2 (24 + s.1 8) 16 = Int32.ofNat (s6.1 8) ∧ CRx s6 s7 (s6.1 7) ∧ (∀ k, k < 5 ∨ k = 10 ∨ k = 12 → s7.2 (24 + s.1 8) k = stF s kd p k) ∧ (∀ k, s7.2 15 k = s.2 15 k) := by
  have b3 := I.b
  have hm := I.m
  have p1 := it_66 (d := d + 9) bb T gw (by decide) (c_66r (d := d + 3) (s := u1 s6 0 w) bb (x := s.1 8) (by show 1 ≤ s6.1 3 ∧ s6.1 3 ≤ 62; omega) (by show s6.2 17 (s6.1 3 - 1) = _; rw [show s6.1 3 - 1 = s.1 3 from by omega]; exact I.t) hm h8)
  have I0 : IOT s (u1 s6 0 w) w kd p := IOT_S I (CSx_1 (by decide)) rfl
  have I1 := IOT_x (j := 16) (x := Int32.ofNat (s6.1 8)) I0 (by decide)
  obtain ⟨s7, hs7⟩ : ∃ s7, s7 = u1 (u2 (u1 s6 0 w) (24 + s.1 8) 16 (Int32.ofNat (s6.1 8))) 3 (s6.1 3 - 1) := ⟨_, rfl⟩
  have e7 : u1 (u2 (u1 s6 0 w) (24 + s.1 8) 16 (Int32.ofNat ((u1 s6 0 w).1 8))) 3 ((u1 s6 0 w).1 3 - 1) = s7 := by rw [hs7]; rfl
  rw [e7] at p1
  have q2 : ∀ z k, ¬ (z = 24 + s.1 8 ∧ k = 16) → s7.2 z k = s6.2 z k := fun z k hz => by rw [hs7, u1_2, u2_2, if_neg hz]; rfl
  have q1 : ∀ c, c ≠ 0 → c ≠ 3 → s7.1 c = s6.1 c := fun c h0 h3 => by rw [hs7, u1_1, if_neg h3, u2_1, u1_1, if_neg h0]
  have v4 := q1 4 (by decide) (by decide)
  have v5 := q1 5 (by decide) (by decide)
  have v6 := q1 6 (by decide) (by decide)
  have v7 := q1 7 (by decide) (by decide)
  refine ⟨s7, p1, by rw [hs7]; exact IOT_z I1, by rw [hs7]; rfl, q1, q2, by rw [hs7, u1_2, u2_2, if_pos ⟨rfl, rfl⟩], ⟨⟨by omega, by omega, by omega, by omega⟩, fun _ _ => q2 _ _ (by omega), fun z _ h1 h2 _ => q2 _ _ (by omega), fun z _ h1 _ => q2 _ _ (by omega), fun hh => absurd hh (by omega), fun _ => ⟨v4, v5⟩, fun z _ h1 _ => q2 _ _ (by omega)⟩, fun k hk => (q2 _ _ (by omega)).trans (I.f k hk), fun k => (q2 _ _ (by omega)).trans (I.h k)⟩
theorem z_whi (bb : CPB h B n) (t : CTK h B n m Bt K P U V) (hN8 : 8 * m + 6 ≤ N) (h2 : HB2 (d + 10) h B n m Bt K P U V N f) (hf : 3 * (m - i) ≤ f) (H : CHt n m s L b i dp) (T : TOP s w 149 0) (hw : w ≤ 12 * dp) (q : K i = 8) : RTa (d + 10) h B n m (spe Bt n P U) K P (f + 1) s w L b i dp 9 (tak K 40 (i + 1) (bnd (pgC K P V N N 0 (dp + 1) (i + 2)) fun c j => tak K 41 j (bnd (pgB K P V N f 2 (dp + 1) (j + 1)) fun b k => (k, some (tNd (tE 9 (P i) 0) (tA c b)))))) := by
  have hb := H.j
  have hm := t.m
  have hn := bb.n
  obtain ⟨e1, e2, e3⟩ := H.e
  obtain ⟨l1, l2⟩ := H.l
  obtain ⟨B1, B2⟩ := H.B
  obtain ⟨c4, c5, c6, c7⟩ := H.c
  have hN3 := H.N
  have hF := H.F
  have hP := p16 bb t hb
  have gw : w < gL n := gL_w t hb e3 e2 (by omega)
  have gw1 : w + 1 < gL n := gL_w t hb e3 e2 (by omega)
  have gw2 : w + 2 < gL n := gL_w t hb e3 e2 (by omega)
  have gw9 : w + 10 ≤ gL n := gL_w (w := w + 9) t hb e3 e2 (by omega)
  have hi1 : i + 1 < m := tkM_s t.M hb q (by decide) (by decide)
  have e : (u1 s 0 w).1 1 = i := H.i
  have ho := H.o
  obtain ⟨Z1, Z2⟩ := z_hd (d := d) (g := 159) (kd := 6) (N := N) (V := V) bb t hN8 H T hw q (by decide) (by decide) (by decide) (fun _ => by
    have z := c_58c (d := d) (s := u1 s 0 w) bb t (by rw [e]; exact hi1) (by rw [e]; exact q) (by show s.1 8 < n / 3 + 2; omega) (by show s.1 3 < 62; omega) (by show w + 5 ≤ gL n; omega)
    rw [e] at z
    exact z)
  by_cases c40 : ¬ K (i + 1) = 40
  · have e6 : ∀ X, tak K 40 (i + 1) X = (i + 1, none) := fun X => if_neg c40
    rw [e6]
    exact Z1 c40
  have c40 : K (i + 1) = 40 := Classical.not_not.mp c40
  have hi2 : i + 2 < m := tkM_s t.M hi1 c40 (by decide) (by decide)
  have e6 : ∀ X, tak K 40 (i + 1) X = X := fun X => if_pos c40
  rw [e6]
  have R := Z2 c40
  have gd := (pgC_b (P := P) (V := V) (N := N) t.M N 0 (dp + 1) (i + 2) (by decide) hi2).1
  generalize pgC K P V N N 0 (dp + 1) (i + 2) = q1 at R gd ⊢
  rcases q1 with ⟨j, _ | tt⟩
  · exact R
  have gj : i + 2 ≤ j := gd.1
  have gm' : j < m := gd.2.1
  obtain ⟨-, nt, ct, htt⟩ := (gd.2.2 tt rfl).1 rfl
  obtain ⟨R1, R2⟩ := R
  show RTa (d + 10) h B n m (spe Bt n P U) K P (f + 1) s w L b i dp 9 (tak K 41 j (bnd (pgB K P V N f 2 (dp + 1) (j + 1)) fun b k => (k, some (tNd (tE 9 (P i) 0) (tA tt b)))))
  by_cases c41 : ¬ K j = 41
  · have e7 : ∀ X, tak K 41 j X = (j, none) := fun X => if_neg c41
    rw [e7]
    exact R1 c41
  have c41 : K j = 41 := Classical.not_not.mp c41
  have hj1 : j + 1 < m := tkM_s t.M gm' c41 (by decide) (by decide)
  have e7 : ∀ X, tak K 41 j X = X := fun X => if_pos c41
  rw [e7]
  obtain ⟨k1, s3, c1, p1, bk1, I3, H3, D⟩ := R2 c41
  have R := h2 (j + 1) dp s3 (w + 1) L (by omega) H3 D.T (by omega)
  have gd2 := (pgB_b (P := P) (V := V) (N := N) t.M f 2 (dp + 1) (j + 1) (by decide) hj1).1
  generalize pgB K P V N f 2 (dp + 1) (j + 1) = q2 at R gd2 ⊢
  rcases q2 with ⟨l, _ | bt⟩
  · have gl : j + 1 ≤ l := gd2.1
    exact RTn_O p1 I3 R (by omega)
  have gl : j + 1 ≤ l := gd2.1
  have glm : l < m := gd2.2.1
  obtain ⟨nb, bs, hbt, k2, s4, p2, F4, bk2, O4, E4, st4, h154⟩ := R
  subst hbt
  subst htt
  have a9 := I3.a 9 (by omega)
  have b3 := I3.b
  have dn := D.n
  have dz := D.z
  obtain ⟨d4, d5, d6, d7⟩ := D.c
  obtain ⟨v4, v5, v6, v7⟩ := O4.c
  have v8 := O4.N
  have fm := F4.m
  have f47 := F4.R.m.2.2.2
  rw [a9] at h154 st4
  rw [dn] at st4
  have I4 := IOT_S I3 (CSx_w F4 (by omega : w ≤ w + 1)) h154
  have b4 := I4.b
  obtain ⟨s7, p7, F7, w7, c7', r7, r716, R7, f7, h7⟩ := z_end (d := d) bb (TOP.of ⟨O4.w, O4.f, (F4.g w (by omega)).trans D.g, ⟨by decide, by decide⟩⟩) gw I4 (by omega) (by omega)
  have kk : tK (tE 9 (P i) 0) = 9 := tE_K (by decide)
  have kp : tP (tE 9 (P i) 0) = P i := tE_P (by decide) hP
  have x1 := c7' 1 (by decide) (by decide)
  have x2 := c7' 2 (by decide) (by decide)
  have x4 := c7' 4 (by decide) (by decide)
  have x5 := c7' 5 (by decide) (by decide)
  have x6 := c7' 6 (by decide) (by decide)
  have x7 := c7' 7 (by decide) (by decide)
  have x8 := c7' 8 (by decide) (by decide)
  have oj := O4.j
  have od := O4.d
  have nxe : nxE (tE 9 (P i) 0) (.branch nt ct (.branch nb bs (.leaf ()))) L = L := nxE_o (by omega) (by omega)
  have sk : skN (tE 9 (P i) 0) = 6 := skN_o kk (by decide) (by decide)
  have u34 : ∀ k, k ≠ 16 → s7.2 (24 + s.1 8) k = s3.2 (24 + s.1 8) k := fun k hk => (r7 _ _ (by omega)).trans (F4.u _ _ (by omega))
  refine ⟨tE 9 (P i) 0, .branch nt ct (.branch nb bs (.leaf ())), rfl, k1 + k2 + 1, s7, PL_t (PL_t p1 p2) p7, F7, by omega, TOK.of ⟨w7, by omega, by omega, by rw [r7 16 7 (by omega)]; exact O4.f, ⟨by omega, by omega, by omega, by omega⟩, by omega⟩, by rw [nxe]; exact SCE_g E4 (c7' 10 (by decide) (by decide)) (c7' 12 (by decide) (by decide)) (c7' 13 (by decide) (by decide)) (fun z k h1 h2 h3 => r7 z k (by omega)), by rw [nxe]; omega, ⟨⟨by rw [f7 0 (by omega), sk]; rfl, f7 1 (by omega), by rw [f7 2 (by omega), kp]; rfl, ?_, ?_, ?_⟩, ?_⟩, (h7 _).trans (if_neg (fun z => by omega)).symm⟩
  · rw [f7 3 (by omega)]
    show Int32.ofNat (s.1 12) = _
    rw [H.E.z]
  · rw [f7 4 (by omega)]
    show Int32.ofNat (s.1 13) = _
    rw [H.E.a]
  · rw [wrS_b (Or.inr kk), u34 5 (by decide), u34 6 (by decide)]
    exact D.x
  · refine Or.inr (Or.inr (Or.inr (Or.inr (Or.inr (Or.inr (Or.inl ⟨kk, nt, ct, nb, bs, s.1 7, c1, rfl, f7 12 (by omega), (u34 13 (by decide)).trans D.y, by omega, cy_r (CRx_t F4.R (CRx_w R7 (by omega))) dz D.w, by rw [x8]; exact r716, ?_⟩))))))
    show stR (spe Bt n P U) s7 (s.1 9) (f + 1) false bs (s.1 8 + 1) (s7.1 8) L 0
    rw [x8]
    exact stR_h (k0 := s.1 8 + 1) R7 (fun z k h1 _ => r7 _ _ (by omega)) (fun k _ => r7 _ _ (by omega)) (f + 1) false bs _ _ _ _ (Nat.le_refl _) (Nat.le_refl _) (stR_m f false bs _ _ _ _ (Nat.le_refl _) st4)
end WLz
