set_option maxRecDepth 100000
/-! the class's parser over statements: assert -/
section ASs
variable {d : Nat} {h : mh_H} {B n m : Nat} {Bt : Nat → Int32} {K : Nat → Int32} {P U : Nat → Nat} {V : Nat → Int} {s s1 s2 s' : cps} {L : cen} {lo : lkt} {w w0 b i dp N f c v j q : Nat} {kd p x y : Int32}
theorem IST_z {sp : Nat → Nat → Bool} {nf nn : Nat} {rl : Bool} {cs : tr} (I : IST s s' w (Int32.ofNat (skN nn)) (Int32.ofNat (tP nn))) (E : SCE s m L) (x : wSt s' = wn (0, 0) (wrS sp (s'.2 15) nf L b rl nn cs)) : s'.2 (24 + s.1 8) 0 = Int32.ofNat (skN nn) ∧ s'.2 (24 + s.1 8) 1 = Int32.ofNat (s.1 8) ∧ s'.2 (24 + s.1 8) 2 = Int32.ofNat (tP nn) ∧ s'.2 (24 + s.1 8) 3 = Int32.ofNat (cnZl L) ∧ s'.2 (24 + s.1 8) 4 = Int32.ofNat (cnAl L) ∧ (s'.2 (24 + s.1 8) 5, s'.2 (24 + s.1 8) 6) = wn (0, 0) (wrS sp (s'.2 15) nf L b rl nn cs) := by
  have hn := I.n
  refine ⟨I.f 0 (by omega), I.f 1 (by omega), I.f 2 (by omega), (I.f 3 (by omega)).trans ?_, (I.f 4 (by omega)).trans ?_, ?_⟩
  · show Int32.ofNat (s.1 12) = _
    rw [E.z]
  · show Int32.ofNat (s.1 13) = _
    rw [E.a]
  · rw [← x]
    unfold wSt
    rw [hn, show 23 + (s.1 8 + 1) = 24 + s.1 8 from by omega]
theorem CGx_as' (G : CGx s s1 w q) (hw : w ≤ s1.1 0) : CGx s (asS s1 x y) w q := CGx_t G (CGx_as hw G.m.2.2.2)
theorem SCE_K (E : SCE s m L) : SCE (kdS s w j) m L := SCE_1 (SCE_1 (SCE_2 (SCE_1 E (by omega)) (by omega)) (by omega)) (by omega)
theorem kd_2 {o k : Nat} (ho : o < 24) (hN : 0 < s.1 8) : (kdS s w j).2 o k = s.2 o k := by
  unfold kdS
  rw [u1_2, u1_2, u2_2, if_neg (by omega), u1_2]
theorem nxE_o {nn : Nat} {cs : tr} (h3 : tK nn ≠ 3) (h4 : tK nn ≠ 4) : nxE nn cs L = L := by unfold nxE; rw [if_neg h3, if_neg h4]
theorem skN_o {nn k : Nat} (h : tK nn = k) (h3 : k ≠ 3) (h4 : k ≠ 4) : skN nn = k - 3 := by unfold skN; rw [if_neg (by omega), h]
theorem wrS_l {sp : Nat → Nat → Bool} {H : Nat → Int32} {nf nn : Nat} {rl : Bool} {cs : tr} (h : tK nn = 10 ∨ tK nn = 5) : wrS sp H nf L b rl nn cs = lwT (loE sp L) cs := by
  rcases cs with _ | ⟨a, cc, _ | ⟨_, _, _⟩⟩
  all_goals
    show (if tK nn = 3 then _ else if tK nn = 4 then _ else if tK nn = 6 then _ else if tK nn = 7 then _ else if tK nn = 8 ∨ tK nn = 9 then _ else if tK nn = 11 then _ else _) = _
    rw [if_neg (by omega), if_neg (by omega), if_neg (by omega), if_neg (by omega), if_neg (by omega), if_neg (by omega)]
theorem t_ass (bb : CPB h B n) (t : CTK h B n m Bt K P U V) (hN8 : 8 * m + 6 ≤ N) (H : CHt n m s L b i dp) (T : TOP s w 149 0) (hw : w ≤ 12 * dp) (q : K i = 9) : RTa (d + 10) h B n m (spe Bt n P U) K P f s w L b i dp 9 (tak K 40 (i + 1) (bnd (pgC K P V N N 0 (dp + 1) (i + 2)) fun c j => tak K 41 j (tak K 59 (j + 1) (j + 2, some (tNd (tE 10 (P i) 0) c))))) := by
  have hb := H.j
  have hm := t.m
  have hn := bb.n
  obtain ⟨e1, e2, e3⟩ := H.e
  obtain ⟨l1, l2⟩ := H.l
  obtain ⟨B1, B2⟩ := H.B
  obtain ⟨c4, c5, c6, c7⟩ := H.c
  have hN3 := H.N
  have hF := H.F
  have hP := p16 bb t hb
  have gw : w < gL n := gL_w t hb e3 e2 (by omega)
  have gw1 : w + 1 < gL n := gL_w t hb e3 e2 (by omega)
  have gw2 : w + 2 < gL n := gL_w t hb e3 e2 (by omega)
  have gw9 : w + 10 ≤ gL n := gL_w (w := w + 9) t hb e3 e2 (by omega)
  have hi1 : i + 1 < m := tkM_s t.M hb q (by decide) (by decide)
  have e : (u1 s 0 w).1 1 = i := H.i
  have z := c_58d (d := d) (s := u1 s 0 w) bb t (by rw [e]; exact hi1) (by rw [e]; exact q) (by show s.1 8 < n / 3 + 2; omega) (by show w + 4 ≤ gL n; omega)
  rw [e] at z
  have p1 := it_58 bb T gw z
  have G := BGN_bg (kd := 7) (p := Int32.ofNat (P i)) H T
  generalize bgS (u1 s 0 w) 7 (Int32.ofNat (P i)) = sb at p1 G
  obtain ⟨b4, b5, b6, b7⟩ := G.c
  have b0 := G.w
  have b8 := G.I.n
  have hNb : 0 < sb.1 8 := by omega
  obtain ⟨sc, hsc⟩ : ∃ sc, sc = asS (asS (asS (asS (u1 sb 1 (i + 1)) 59 0) 41 0) 157 0) 171 0 := ⟨_, rfl⟩
  have pe : bcS K P (asS (u1 sb 1 (i + 1)) 59 0) = tkS K P sc 40 := by rw [hsc]; rfl
  rw [pe] at p1
  have Gc : CGx sb sc w (sb.1 7) := by
    rw [hsc]
    exact CGx_as' (CGx_as' (CGx_as' (CGx_as' (CGx_1 (Or.inr (Or.inl rfl)) (Nat.le_refl _)) (by show w ≤ sb.1 0; omega)) (by show w ≤ sb.1 0 + 1; omega)) (by show w ≤ sb.1 0 + 1 + 1; omega)) (by show w ≤ sb.1 0 + 1 + 1 + 1; omega)
  have a0 : sc.1 0 = w + 4 := by rw [hsc]; show sb.1 0 + 1 + 1 + 1 + 1 = _; omega
  have a1 : sc.1 1 = i + 1 := by rw [hsc]; rfl
  have a2 : sc.1 2 = dp := by rw [hsc]; exact G.d
  have a4 : sc.1 4 = s.1 4 := by rw [hsc]; exact b4
  have a5 : sc.1 5 = s.1 5 := by rw [hsc]; exact b5
  have a6 : sc.1 6 = s.1 6 := by rw [hsc]; exact b6
  have a7 : sc.1 7 = s.1 7 := by rw [hsc]; exact b7
  have a8 : sc.1 8 = s.1 8 + 1 := by rw [hsc]; exact b8
  have af : sc.2 16 7 = -1 := by rw [hsc]; exact G.f
  have ax : wSt sc = (0, 0) := by
    rw [hsc]
    repeat (first | refine (wSt_as (by exact hNb)).trans ?_ | refine (wSt_em (by exact hNb)).trans ?_ | refine (wSt_pt (by exact hNb)).trans ?_ | refine (wSt_1 (by decide)).trans ?_)
    exact G.x
  have g3 : sc.2 23 (w + 3) = glI (Int32.ofNat 171) (Int32.ofNat 0) := by
    rw [hsc, as_23, if_pos (by show w + 3 = sb.1 0 + 1 + 1 + 1; omega)]
    rfl
  have g2 : sc.2 23 (w + 2) = glI (Int32.ofNat 157) (Int32.ofNat 0) := by
    rw [hsc, as_23, if_neg (by show ¬ w + 2 = sb.1 0 + 1 + 1 + 1; omega), as_23, if_pos (by show w + 2 = sb.1 0 + 1 + 1; omega)]
    rfl
  have g1 : sc.2 23 (w + 1) = glI (Int32.ofNat 41) (Int32.ofNat 0) := by
    rw [hsc, as_23, if_neg (by show ¬ w + 1 = sb.1 0 + 1 + 1 + 1; omega), as_23, if_neg (by show ¬ w + 1 = sb.1 0 + 1 + 1; omega), as_23, if_pos (by show w + 1 = sb.1 0 + 1; omega)]
    rfl
  have g0 : sc.2 23 w = glI (Int32.ofNat 59) (Int32.ofNat 0) := by
    rw [hsc, as_23, if_neg (by show ¬ w = sb.1 0 + 1 + 1 + 1; omega), as_23, if_neg (by show ¬ w = sb.1 0 + 1 + 1; omega), as_23, if_neg (by show ¬ w = sb.1 0 + 1; omega), as_23, if_pos (by show w = sb.1 0; omega)]
    rfl
  clear hsc pe
  by_cases c40 : ¬ K (i + 1) = 40
  · have e6 : ∀ X, tak K 40 (i + 1) X = (i + 1, none) := fun X => if_neg c40
    rw [e6]
    rw [tkS_n af (by rw [a1]; exact c40), a1] at p1
    exact ⟨1, _, p1, CVx_W G.I.F (CWx_t (CGx_W Gc) CWx_f) (by omega), by omega, rfl, by show sc.1 6 ≤ _; omega⟩
  have c40 : K (i + 1) = 40 := Classical.not_not.mp c40
  have hi2 : i + 2 < m := tkM_s t.M hi1 c40 (by decide) (by decide)
  have e6 : ∀ X, tak K 40 (i + 1) X = X := fun X => if_pos c40
  rw [e6]
  rw [tkS_p af (by rw [a1]; exact c40), a1] at p1
  obtain ⟨s1, hs1⟩ : ∃ s1, s1 = u1 sc 1 (i + 1 + 1) := ⟨_, rfl⟩
  rw [← hs1] at p1
  have G1 : CGx sb s1 w (sb.1 7) := CGx_t Gc (by rw [hs1]; exact CGx_1 (Or.inr (Or.inl rfl)) (by omega))
  have r1 : ∀ c, c ≠ 1 → s1.1 c = sc.1 c := fun c hc => by rw [hs1]; exact if_neg hc
  have r2 : s1.2 = sc.2 := by rw [hs1]; rfl
  have x1 : s1.1 1 = i + 2 := by rw [hs1]; rfl
  have ax1 : wSt s1 = (0, 0) := by rw [hs1, wSt_1 (by decide)]; exact ax
  clear hs1
  have y0 := r1 0 (by decide)
  have y2 := r1 2 (by decide)
  have y4 := r1 4 (by decide)
  have y5 := r1 5 (by decide)
  have y6 := r1 6 (by decide)
  have y7 := r1 7 (by decide)
  have y8 := r1 8 (by decide)
  have I1 := IST_G G.I G1
  have E1 := SCE_G G.E G1
  have C1 := CHc_of (dp := dp) bb t E1 (i := i + 2) (by omega) (by omega) x1 hi2 (by omega) (by omega) (by omega) (by omega) (by omega)
  have R := t_cd (d := d) (w := w + 1) (N := N) bb t (by omega) C1 (TOP.of ⟨by omega, by rw [r2]; exact af, by rw [r2]; exact g3, ⟨by decide, by decide⟩⟩) (by rw [r2]; exact g2) (by rw [r2]; exact g1) (by omega) e2 (by omega)
  have gd := (pgC_b (P := P) (V := V) (N := N) t.M N 0 (dp + 1) (i + 2) (by decide) hi2).1
  generalize pgC K P V N N 0 (dp + 1) (i + 2) = q1 at R gd ⊢
  rcases q1 with ⟨j, _ | tt⟩
  · have gj : i + 2 ≤ j := gd.1
    exact RTn_C p1 I1.F (by omega) R (by omega)
  have gj : i + 2 ≤ j := gd.1
  have gm' : j < m := gd.2.1
  obtain ⟨R1, R2⟩ := R
  show RTa (d + 10) h B n m (spe Bt n P U) K P f s w L b i dp 9 (tak K 41 j (tak K 59 (j + 1) (j + 2, some (tNd (tE 10 (P i) 0) tt))))
  by_cases c41 : ¬ K j = 41
  · have e7 : ∀ X, tak K 41 j X = (j, none) := fun X => if_neg c41
    rw [e7]
    exact RTn_C p1 I1.F (by omega) (R1 c41) (by omega)
  have c41 : K j = 41 := Classical.not_not.mp c41
  have hj1 : j + 1 < m := tkM_s t.M gm' c41 (by decide) (by decide)
  have e7 : ∀ X, tak K 41 j X = X := fun X => if_pos c41
  rw [e7]
  obtain ⟨k1, s2, s3, p2, F2, hs3, b2, O3, d4, d5, d6, d7, y13, ycy⟩ := R2 c41
  have n2 := CGx_8 F2
  have F2' : CGx s1 s2 w (s1.1 7) := CGx_w F2 (by omega) (Nat.le_refl _)
  have I3 : IST s s3 w 7 (Int32.ofNat (P i)) := by rw [hs3]; exact IST_K (IST_G I1 F2')
  have E3 : SCE s3 m L := by rw [hs3]; exact SCE_K (SCE_G E1 F2)
  have h23 : s3.2 23 w = glI (Int32.ofNat 59) (Int32.ofNat 0) := by rw [hs3, kd_2 (by decide) (by omega), F2.g w (by omega), r2]; exact g0
  clear hs3
  have n3 := I3.n
  have T3 : TOP s3 w 59 0 := TOP.of ⟨O3.w, O3.f, h23, ⟨by decide, by decide⟩⟩
  by_cases c59 : ¬ K (j + 1) = 59
  · have e8 : ∀ X, tak K 59 (j + 1) X = (j + 1, none) := fun X => if_neg c59
    rw [e8]
    exact RTn_t bb t (PL_t p1 p2) I3.F (by omega) O3.j hj1 T3 (by decide) gw c59 (by omega) (by omega)
  have c59 : K (j + 1) = 59 := Classical.not_not.mp c59
  have e8 : ∀ X, tak K 59 (j + 1) X = X := fun X => if_pos c59
  rw [e8]
  have p3 := st_tk (d := d) bb t O3.j hj1 (by decide) T3 gw c59
  have I5 : IST s (u1 (u1 s3 0 w) 1 (j + 1 + 1)) w 7 (Int32.ofNat (P i)) := IST_1 (IST_1 I3 (by decide)) (by decide)
  have kk : tK (tE 10 (P i) 0) = 10 := tE_K (by decide)
  have kp : tP (tE 10 (P i) 0) = P i := tE_P (by decide) hP
  have I6 : IST s (u1 (u1 s3 0 w) 1 (j + 1 + 1)) w (Int32.ofNat (skN (tE 10 (P i) 0))) (Int32.ofNat (tP (tE 10 (P i) 0))) := by rw [skN_o kk (by decide) (by decide), kp]; exact I5
  have nx : nxE (tE 10 (P i) 0) tt L = L := nxE_o (by omega) (by omega)
  refine ⟨tE 10 (P i) 0, tt, rfl, 1 + k1 + 1, _, PL_t (PL_t p1 p2) p3, I5.F, by omega, TOK.of ⟨rfl, rfl, O3.d, O3.f, ⟨by show s3.1 4 ≤ _; omega, by show s3.1 5 ≤ _; omega, by show s3.1 6 ≤ _; omega, by show s3.1 7 ≤ _; omega⟩, by show 3 * s3.1 8 ≤ _; omega⟩, by rw [nx]; exact SCE_1 (SCE_1 E3 (by decide)) (by decide), by rw [nx]; omega, ⟨IST_z I6 H.E ?_, ?_⟩, I5.h.trans (if_neg (fun z => by omega)).symm⟩
  · rw [wrS_l (Or.inl kk), wSt_1 (by decide), wSt_1 (by decide), O3.x, ax1]
  · refine Or.inr (Or.inr (Or.inr (Or.inr (Or.inr (Or.inr (Or.inr (Or.inl ⟨kk, s.1 7, s3.1 7, I5.n, I5.f 12 (by omega), ?_, Nat.le_refl _, ?_⟩)))))))
    · show s3.2 (24 + s.1 8) 13 = _
      rw [← y13, show 23 + s1.1 8 = 24 + s.1 8 from by omega]
    · have z7 : s1.1 7 = s.1 7 := by omega
      rw [z7] at ycy
      exact cy_r (CRx_t (CRx_1 (by decide)) (CRx_1 (by decide))) (Nat.le_refl _) ycy
end ASs
