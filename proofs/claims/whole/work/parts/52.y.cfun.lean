set_option maxRecDepth 100000
/-! the class's parser over functions: a function, whole -/
section FCz
variable {d : Nat} {h : mh_H} {B n m : Nat} {Bt : Nat → Int32} {K : Nat → Int32} {P U : Nat → Nat} {V : Nat → Int} {s s1 s2 s' : cps} {L : cen} {w b i dp N f j g k0 kf1 kf i1 : Nat} {x y : Int32}
theorem cf_1 : (cfS s).1 9 = s.1 9 + 1 ∧ (∀ c, c ≠ 9 → (cfS s).1 c = s.1 c) ∧ (cfS s).2 15 (6 * s.1 9 + 4) = Int32.ofNat (s.1 8) ∧ ∀ z k, ¬ (z = 15 ∧ k = 6 * s.1 9 + 4) → (cfS s).2 z k = s.2 z k := by
  unfold cfS
  refine ⟨rfl, fun c hc => if_neg hc, by rw [u1_2, u2_2, if_pos ⟨rfl, rfl⟩], fun z k hz => by rw [u1_2, u2_2, if_neg hz]⟩
theorem x_fun (bb : CPB h B n) (t : CTK h B n m Bt K P U V) (hP : TPL K P m) (hN8 : 8 * m + 6 ≤ N + 1) (H : FNH P m s i) (T : TOP s w 141 0) (hw : w ≤ 4) : RFa (d + 10) h B n m (spe Bt n P U) P N s w i (pgF K P V (N + 1) i) := by
  unfold pgF
  have hb := H.j
  have hm := t.m
  have hn := bb.n
  obtain ⟨q4, q5, q6, q7⟩ := H.c
  have hN := H.N
  have hF := H.F
  rcases x_f1 (d := d) bb t H T hw with ⟨j, hj, R⟩ | ⟨hX, ⟨hi3, c4, c2⟩, s3, p3, F3, T3, H3, g0, g1, r0, r3, r5⟩
  · rw [hj]
    obtain ⟨k, s', z1, z2, z3, z4⟩ := R
    exact ⟨k, s', z1, z2, by omega, z4⟩
  rw [hX]
  clear hX
  have R : RPa (d + 10) h B n m (spe Bt n P U) P s3 (w + 2) [] (i + 3) (if K (i + 3) = 41 then (i + 4, some (Lean.RArray.leaf ())) else tak K 2 (i + 3) (bnd (pgM K P (N + 1) (i + 4)) fun r k => (k, some (Lean.RArray.branch (tE 13 (P (i + 3)) (i + 3)) (Lean.RArray.leaf ()) r)))) := x_pms (d := d) (V := V) bb t hN8 (by omega) H3 (by omega) T3
  have pp : ∀ j r, (if K (i + 3) = 41 then (i + 4, some (Lean.RArray.leaf ())) else tak K 2 (i + 3) (bnd (pgM K P (N + 1) (i + 4)) fun r k => (k, some (Lean.RArray.branch (tE 13 (P (i + 3)) (i + 3)) (Lean.RArray.leaf ()) r)))) = (j, some r) → i + 3 < j ∧ pmW r := pms_p (P := P) (N := N + 1) t.M hi3
  generalize (if K (i + 3) = 41 then (i + 4, some (Lean.RArray.leaf ())) else tak K 2 (i + 3) (bnd (pgM K P (N + 1) (i + 4)) fun r k => (k, some (Lean.RArray.branch (tE 13 (P (i + 3)) (i + 3)) (Lean.RArray.leaf ()) r)))) = r1 at R pp ⊢
  have s39 := F3.a 9 (by decide) (by decide)
  have s38 := F3.a 8 (by decide) (by decide)
  rcases r1 with ⟨j, _ | r⟩
  · obtain ⟨k4, s4, p4, F4, b4, f4⟩ := R
    exact ⟨3 + k4, s4, PL_t p3 p4, FQx_V F3 F4, by omega, f4⟩
  obtain ⟨hij, hpw⟩ := pp j r rfl
  clear pp
  obtain ⟨k4, s4, p4, F4, b4, H4, w4, f4⟩ := R
  have G4 : FQx s s4 w := FQx_t F3 (FQx_w (PFx_Q F4) (by omega))
  have hjm := H4.j
  have n9 := G4.a 9 (by decide) (by decide)
  have n8 := G4.a 8 (by decide) (by decide)
  have n3 := G4.a 3 (by decide) (by decide)
  have n4 := G4.a 4 (by decide) (by decide)
  have n5 := G4.a 5 (by decide) (by decide)
  have n6 := G4.a 6 (by decide) (by decide)
  have n7 := G4.a 7 (by decide) (by decide)
  have ho := H.o
  have T4 : TOP s4 (w + 1) 147 1 := TOP.of ⟨w4, f4, (F4.r 23 (w + 1) (by omega) (by omega) (by omega) (by omega)).trans g1, ⟨by decide, by decide⟩⟩
  have gw4 : s4.2 23 w = glI (Int32.ofNat 146) (Int32.ofNat 0) := (F4.r 23 w (by omega) (by omega) (by omega) (by omega)).trans g0
  have u0 : s4.2 15 (6 * s.1 9) = Int32.ofNat (i + 1) := (F4.r 15 _ (by omega) (by omega) (by omega) (by omega)).trans r0
  have u3 : s4.2 15 (6 * s.1 9 + 3) = Int32.ofNat (s.1 8) := (F4.r 15 _ (by omega) (by omega) (by omega) (by omega)).trans r3
  have u5 : s4.2 15 (6 * s.1 9 + 5) = -1 := (F4.r 15 _ (by omega) (by omega) (by omega) (by omega)).trans r5
  have u1' := H4.p
  have u2' := H4.t
  rw [n9] at u1' u2'
  have hH4 : ∀ f, f < s4.1 9 → nmH s4 f < m ∧ s4.2 15 (6 * f) = Int32.ofNat (nmH s4 f) := fun g hg => by
    have e15 : s4.2 15 (6 * g) = s.2 15 (6 * g) := G4.r _ _ (by omega) (by omega) (by omega) (by omega)
    have := H.H g (by omega)
    unfold nmH at this ⊢
    rw [e15]
    exact this
  have P4 := PL_t p3 p4
  clear p3 p4 F3 T3 H3 g0 g1 r0 r3 r5 F4
  show RFa (d + 10) h B n m (spe Bt n P U) P N s w i (bnd (pgB K P V (N + 1) (N + 1) 2 1 j) fun b k => (k, some (tNd (tE 1 (P i) 0) (.branch (tE 13 (P (i + 1)) (i + 1)) (.leaf ()) (tC r b)))))
  rcases x_f2 (d := d) (V := V) bb t hN8 H4 T4 hw (by omega) hH4 with ⟨l, hl, hjl, R⟩ | ⟨l, bs, hl, ⟨l1, l2⟩, k5, s5, p5, C5, m5, g5, h5, z5, b5, ⟨o3, o9⟩, O5, E5, st5, y5⟩
  · rw [hl]
    obtain ⟨k5, s5, p5, F5, b5, f5⟩ := R
    exact ⟨3 + k4 + k5, s5, PL_t P4 p5, FQx_V G4 F5, by omega, f5⟩
  rw [hl]
  clear hl
  have T5 : TOP s5 w 146 0 := TOP.of ⟨O5.w, O5.f, (g5 w (Nat.le_refl _)).trans gw4, ⟨by decide, by decide⟩⟩
  have gw : w < gL n := gL_w (dp := 0) t hb (Nat.zero_le _) (by decide) (by omega)
  have hqi := t.q i hb
  have p6 := it_55 (d := d + 9) bb T5 gw (by decide) (c_55k (d := d + 3) (s := u1 s5 0 w) bb (by show 6 * s5.1 9 + 5 < _; omega))
  obtain ⟨c1, c2', c3, c5⟩ := cf_1 (s := u1 s5 0 w)
  generalize cfS (u1 s5 0 w) = s6 at p6 c1 c2' c3 c5
  have x9 : s6.1 9 = s.1 9 + 1 := by rw [c1]; show s5.1 9 + 1 = _; omega
  have xc : ∀ c, c ≠ 0 → c ≠ 9 → s6.1 c = s5.1 c := fun c h0 h9 => by rw [c2' c h9]; exact if_neg h0
  have x0 : s6.1 0 = w := c2' 0 (by decide)
  have e9 : (u1 s5 0 w).1 9 = s.1 9 := by show s5.1 9 = _; omega
  rw [e9] at c3 c5
  have xr : ∀ z k, ¬ (z = 15 ∧ k = 6 * s.1 9 + 4) → s6.2 z k = s5.2 z k := c5
  have x4' : s6.2 15 (6 * s.1 9 + 4) = Int32.ofNat (s5.1 8) := c3
  clear c1 c2' c3 c5
  have y1 := xc 1 (by decide) (by decide)
  have y2 := xc 2 (by decide) (by decide)
  have y3 := xc 3 (by decide) (by decide)
  have y4 := xc 4 (by decide) (by decide)
  have y5' := xc 5 (by decide) (by decide)
  have y6 := xc 6 (by decide) (by decide)
  have y7 := xc 7 (by decide) (by decide)
  have y8 := xc 8 (by decide) (by decide)
  have y10 := xc 10 (by decide) (by decide)
  have y11 := xc 11 (by decide) (by decide)
  have y12 := xc 12 (by decide) (by decide)
  have y13 := xc 13 (by decide) (by decide)
  have C6 : CRx s5 s6 (s5.1 7) := ⟨⟨by omega, by omega, by omega, by omega⟩, fun k _ => xr _ _ (by omega), fun z k _ _ _ => xr _ _ (by omega), fun z k _ _ => xr _ _ (by omega), fun hh => absurd hh (by omega), fun _ => ⟨y4, y5'⟩, fun z k _ _ => xr _ _ (by omega)⟩
  obtain ⟨v4, v5, v6, v7⟩ := O5.c
  have v8 := O5.N
  have vj := O5.j
  have vd := O5.d
  have vb := O5.b
  have mm := C5.m.2.2.2
  rw [n9] at h5 st5 y5
  rw [n8] at z5 st5
  have row15 : ∀ y, y ≠ 6 * s.1 9 + 5 → y ≠ 6 * s.1 9 + 4 → s6.2 15 y = s4.2 15 y := fun y h1 h2 => (xr 15 y (by omega)).trans (h5 y h1)
  have CR : CRx s s6 (s.1 7) := CRx_t (FQx_R G4) (CRx_t (CRx_w C5 (by omega)) (CRx_w C6 (by omega)))
  have hpl := hP i (l + 1) (by omega) l2 c4 c2
  have bk : 3 + k4 + k5 + 1 + 10 ≤ 30 * (l + 1 - i) := by omega
  have FF : CFn s s6 w := CFn.of ⟨CR, by omega, fun y hy => (xr _ _ (by omega)).trans ((g5 y (by omega)).trans (G4.r _ _ (by omega) (by omega) (by omega) (by omega))), fun y hy => (row15 y (by omega) (by omega)).trans (G4.r _ _ (by omega) (by omega) (by omega) (by omega)), fun k y hk => (xr _ _ (by omega)).trans ((z5 k y (by omega)).trans (G4.r _ _ (by omega) (by omega) (by omega) (by omega)))⟩
  have HH : FNH P m s6 (l + 1) := FNH.of ⟨by omega, l2, by omega, by omega, SCE_g E5 y10 y12 y13 (fun z k h1 h2 h3 => xr _ _ (by omega)), by omega, ⟨by omega, by omega, by omega, by omega⟩, by omega, by omega, fun g hg => by
    by_cases cg : g < s.1 9
    · have e15 : s6.2 15 (6 * g) = s4.2 15 (6 * g) := row15 _ (by omega) (by omega)
      have := hH4 g (by omega)
      unfold nmH at this ⊢
      rw [e15]
      exact this
    · have eg : g = s.1 9 := by omega
      have e15 : s6.2 15 (6 * g) = Int32.ofNat (i + 1) := by rw [eg]; exact (row15 _ (by omega) (by omega)).trans u0
      unfold nmH
      rw [e15, nn_clamp (by omega)]
      exact ⟨by omega, rfl⟩⟩
  have stt : stR (spe Bt n P U) s6 (s.1 9) N true bs (s.1 8) (s6.1 8) (prL r []) (prL r []).length := by
    rw [y8]
    exact stR_g C6 (fun k y hk => xr _ _ (by omega)) (fun y hy => xr _ _ (by omega)) N true bs _ _ _ _ (Nat.le_refl _) st5
  have w1 : s6.2 15 (6 * s.1 9 + 1) = Int32.ofNat (prL r []).length := (row15 _ (by omega) (by omega)).trans u1'
  have w2 : s6.2 15 (6 * s.1 9 + 2) = rpT (spe Bt n P U) (prL r []) := (row15 _ (by omega) (by omega)).trans u2'
  have w3 : s6.2 15 (6 * s.1 9 + 3) = Int32.ofNat (s.1 8) := (row15 _ (by omega) (by omega)).trans u3
  have w4' : s6.2 15 (6 * s.1 9 + 4) = Int32.ofNat (s6.1 8) := by rw [x4', y8]
  have w5 : s6.2 15 (6 * s.1 9 + 5) = (if gvT bs = true then Int32.ofNat (s6.1 8 - 1) else -1) := by rw [xr _ _ (by omega), y5, u5, y8]
  have w0 : s6.2 15 (6 * s.1 9) = Int32.ofNat (i + 1) := (row15 _ (by omega) (by omega)).trans u0
  have f6 : s6.2 16 7 = -1 := (xr _ _ (by omega)).trans O5.f
  have hP1 := p16 bb t (show i + 1 < m by omega)
  have va : (tV (tE 13 (P (i + 1)) (i + 1))).toNat = i + 1 := by rw [tE_V (by decide) hP1]; omega
  exact ⟨tE 1 (P i) 0, _, rfl, 3 + k4 + k5 + 1, s6, PL_t (PL_t P4 p5) p6, FF, bk, HH, ⟨x0, f6⟩, x9, tE 13 (P (i + 1)) (i + 1), r, tE 2 (P j) 0, bs, rfl, ⟨tE_K (by decide), hpw, tE_K (by decide)⟩, by rw [va]; exact w0, w1, w2, w3, w4', w5, stt⟩
end FCz
