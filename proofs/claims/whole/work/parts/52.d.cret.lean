set_option maxRecDepth 100000
/-! the class's parser over statements: assert, return -/
abbrev RTn (d : Nat) (h : mh_H) (B n : Nat) (P : Nat → Nat) (s : cps) (i j kf : Nat) : Prop := ∃ k s', PL d h B k s s' ∧ CVx s s' n ∧ k ≤ 30 * (j - i) + kf ∧ s'.2 16 7 = Int32.ofNat (P j) ∧ s'.1 6 ≤ j + 1
def TOK (s s' : cps) (w i j dp : Nat) : Prop := (s'.1 0 = w) ∧ (s'.1 1 = j) ∧ (s'.1 2 = dp) ∧ (s'.2 16 7 = -1) ∧ (s'.1 4 ≤ s.1 4 + (j - i) ∧ s'.1 5 ≤ s.1 5 + (j - i) ∧ s'.1 6 ≤ s.1 6 + (j - i) ∧ s'.1 7 ≤ s.1 7 + (j - i)) ∧ (3 * s'.1 8 ≤ 3 * s.1 8 + (j - i))
theorem TOK.of {s s' : cps} {w i j dp : Nat} (q : (s'.1 0 = w) ∧ (s'.1 1 = j) ∧ (s'.1 2 = dp) ∧ (s'.2 16 7 = -1) ∧ (s'.1 4 ≤ s.1 4 + (j - i) ∧ s'.1 5 ≤ s.1 5 + (j - i) ∧ s'.1 6 ≤ s.1 6 + (j - i) ∧ s'.1 7 ≤ s.1 7 + (j - i)) ∧ (3 * s'.1 8 ≤ 3 * s.1 8 + (j - i))) : TOK s s' w i j dp := q
theorem TOK.w {s s' : cps} {w i j dp : Nat} (q : TOK s s' w i j dp) : s'.1 0 = w := q.1
theorem TOK.j {s s' : cps} {w i j dp : Nat} (q : TOK s s' w i j dp) : s'.1 1 = j := q.2.1
theorem TOK.d {s s' : cps} {w i j dp : Nat} (q : TOK s s' w i j dp) : s'.1 2 = dp := q.2.2.1
theorem TOK.f {s s' : cps} {w i j dp : Nat} (q : TOK s s' w i j dp) : s'.2 16 7 = -1 := q.2.2.2.1
theorem TOK.c {s s' : cps} {w i j dp : Nat} (q : TOK s s' w i j dp) : s'.1 4 ≤ s.1 4 + (j - i) ∧ s'.1 5 ≤ s.1 5 + (j - i) ∧ s'.1 6 ≤ s.1 6 + (j - i) ∧ s'.1 7 ≤ s.1 7 + (j - i) := q.2.2.2.2.1
theorem TOK.N {s s' : cps} {w i j dp : Nat} (q : TOK s s' w i j dp) : 3 * s'.1 8 ≤ 3 * s.1 8 + (j - i) := q.2.2.2.2.2
abbrev RTz (d : Nat) (h : mh_H) (B m : Nat) (sp : Nat → Nat → Bool) (K : Nat → Int32) (f : Nat) (s : cps) (w : Nat) (L : cen) (b i dp j nn : Nat) (cs : tr) : Prop := ∃ k s', PL d h B k s s' ∧ CSx s s' w ∧ k + 1 ≤ 30 * (j - i) ∧ TOK s s' w i j dp ∧ SCE s' m (nxE nn cs L) ∧ 2 * (nxE nn cs L).length ≤ 2 * L.length + (j - i) ∧ stN sp s' (s.1 9) (fun bs x y L' => stR sp s' (s.1 9) f false bs x y L' 0) nn cs (s.1 8) (s'.1 8) L b (decide (dp = 1 ∧ K j = 125)) ∧ s'.2 15 (6 * s.1 9 + 5) = (if tK nn = 11 ∧ dp = 1 ∧ K j = 125 then Int32.ofNat (s.1 8) else s.2 15 (6 * s.1 9 + 5))
def RTa (d : Nat) (h : mh_H) (B n m : Nat) (sp : Nat → Nat → Bool) (K : Nat → Int32) (P : Nat → Nat) (f : Nat) (s : cps) (w : Nat) (L : cen) (b i dp kf : Nat) (r : pqr) : Prop := match r with
  | (j, none) => RTn d h B n P s i j kf
  | (j, some t) => ∃ nn cs, t = tNd nn cs ∧ RTz d h B m sp K f s w L b i dp j nn cs
section SAs
variable {d : Nat} {h : mh_H} {B n m : Nat} {Bt : Nat → Int32} {K : Nat → Int32} {P U : Nat → Nat} {V : Nat → Int} {s s1 : cps} {L : cen} {w b i dp N f : Nat}
theorem CHc_of (bb : CPB h B n) (t : CTK h B n m Bt K P U V) (E : SCE s m L) (hl : 2 * L.length ≤ i) (hN : 0 < s.1 8) (hi : s.1 1 = i) (hb : i < m) (hd : s.1 2 = dp) (h4 : s.1 4 ≤ i) (h5 : s.1 5 ≤ i) (h6 : s.1 6 ≤ i) (h7 : s.1 7 ≤ i) : CHc Bt n m P U s (loE (spe Bt n P U) L) i dp := by
  have hn := bb.n
  have hm := t.m
  exact CHc.of ⟨CHs.of ⟨hN, hi, hb, hd, SCE_C E (by omega) hn hm.2, SCE_l E (by omega) (by omega), h4, h5⟩, h6, h7⟩
/-- fields of the statement that began, kept -/
theorem bg_k {s2 : cps} {x y : Int32} {q w' : Nat} (F : CGx (bgS s x y) s2 w' q) {j : Nat} (hj : j ≠ 5 ∧ j ≠ 6 ∧ j ≠ 11) : s2.2 (24 + s.1 8) j = stF s x y j := by
  rw [F.u (24 + s.1 8) j (by omega) (by omega), show 24 + s.1 8 = 23 + (s.1 8 + 1) from by omega, bg_f]
theorem t_ret (bb : CPB h B n) (t : CTK h B n m Bt K P U V) (hN8 : 8 * m + 6 ≤ N) (H : CHt n m s L b i dp) (T : TOP s w 149 0) (hw : w ≤ 12 * dp) (q : K i = 10) : RTa (d + 10) h B n m (spe Bt n P U) K P f s w L b i dp 5 (bnd (pgX K P V N 0 (dp + 1) (i + 1)) fun t j => tak K 59 j (j + 1, some (tNd (tE 11 (P i) 0) t))) := by
  have hb := H.j
  have hm := t.m
  have hn := bb.n
  obtain ⟨e1, e2, e3⟩ := H.e
  obtain ⟨l1, l2⟩ := H.l
  obtain ⟨B1, B2⟩ := H.B
  obtain ⟨c4, c5, c6, c7⟩ := H.c
  have hN3 := H.N
  have hF := H.F
  have hP := p16 bb t hb
  have gw : w < gL n := gL_w t hb e3 e2 (by omega)
  have gw1 : w + 1 < gL n := gL_w t hb e3 e2 (by omega)
  have gw3 : w + 3 ≤ gL n := gL_w (w := w + 2) t hb e3 e2 (by omega)
  have hi1 : i + 1 < m := tkM_s t.M hb q (by decide) (by decide)
  have e : (u1 s 0 w).1 1 = i := H.i
  have z := c_58e (d := d) (s := u1 s 0 w) bb t (by rw [e]; exact hb) (by rw [e]; exact q) (by show s.1 8 < n / 3 + 2; omega) gw3
  rw [e] at z
  have p1 := it_58 bb T gw z
  obtain ⟨s0, hs0⟩ : ∃ s0, s0 = u1 s 0 w := ⟨_, rfl⟩
  have o8 : s0.1 8 = s.1 8 := by rw [hs0]; rfl
  rw [← hs0] at p1
  have Fb : CSx s (bgS s0 8 (Int32.ofNat (P i))) w := by rw [hs0]; exact CSx_t (CSx_1 (by omega)) CSx_bg
  obtain ⟨s1, hs1⟩ : ∃ s1, s1 = asS (asS (asS (u1 (bgS s0 8 (Int32.ofNat (P i))) 1 (i + 1)) 160 0) 59 0) 161 0 := ⟨_, rfl⟩
  rw [← hs1] at p1
  have z0 : (bgS s0 8 (Int32.ofNat (P i))).1 0 = w := by rw [hs0]; rfl
  have z7 : (bgS s0 8 (Int32.ofNat (P i))).1 7 = s.1 7 := by rw [hs0]; rfl
  have G1 : CGx (bgS s0 8 (Int32.ofNat (P i))) s1 w (s.1 7) := by
    rw [hs1]
    refine CGx_t (CGx_t (CGx_t (CGx_1 (Or.inr (Or.inl rfl)) (by omega)) (CGx_as (by show w ≤ (bgS s0 8 (Int32.ofNat (P i))).1 0; omega) (by show s.1 7 ≤ (bgS s0 8 (Int32.ofNat (P i))).1 7; omega))) (CGx_as (by show w ≤ (bgS s0 8 (Int32.ofNat (P i))).1 0 + 1; omega) (by show s.1 7 ≤ (bgS s0 8 (Int32.ofNat (P i))).1 7; omega))) (CGx_as (by show w ≤ (bgS s0 8 (Int32.ofNat (P i))).1 0 + 1 + 1; omega) (by show s.1 7 ≤ (bgS s0 8 (Int32.ofNat (P i))).1 7; omega))
  have a0 : s1.1 0 = w + 3 := by rw [hs1, hs0]; rfl
  have a1 : s1.1 1 = i + 1 := by rw [hs1]; rfl
  have a2 : s1.1 2 = dp := by rw [hs1, hs0]; exact H.d
  have a4 : s1.1 4 = s.1 4 := by rw [hs1, hs0]; rfl
  have a5 : s1.1 5 = s.1 5 := by rw [hs1, hs0]; rfl
  have a6 : s1.1 6 = s.1 6 := by rw [hs1, hs0]; rfl
  have a7 : s1.1 7 = s.1 7 := by rw [hs1, hs0]; rfl
  have a8 : s1.1 8 = s.1 8 + 1 := by rw [hs1, hs0]; rfl
  have n0 : (16 = 24 + s0.1 8) = False := eq_false (by omega)
  have af : s1.2 16 7 = -1 := by
    rw [hs1]
    show (bgS s0 8 (Int32.ofNat (P i))).2 16 7 = -1
    rw [bg_2 (by omega), hs0]
    exact T.f
  have ax : wSt s1 = (0, 0) := by
    have hNb : 0 < (bgS s0 8 (Int32.ofNat (P i))).1 8 := by rw [bg_8]; omega
    rw [hs1]
    repeat (first | refine (wSt_as (by exact hNb)).trans ?_ | refine (wSt_em (by exact hNb)).trans ?_ | refine (wSt_pt (by exact hNb)).trans ?_ | refine (wSt_1 (by decide)).trans ?_)
    exact wSt_bg
  have g0 : s1.2 23 w = glI (Int32.ofNat 160) (Int32.ofNat 0) := by
    rw [hs1, as_23, if_neg (by show ¬ w = (bgS s0 8 (Int32.ofNat (P i))).1 0 + 1 + 1; omega), as_23, if_neg (by show ¬ w = (bgS s0 8 (Int32.ofNat (P i))).1 0 + 1; omega), as_23, if_pos (by show w = (bgS s0 8 (Int32.ofNat (P i))).1 0; omega)]
    rfl
  have g1 : s1.2 23 (w + 1) = glI (Int32.ofNat 59) (Int32.ofNat 0) := by
    rw [hs1, as_23, if_neg (by show ¬ w + 1 = (bgS s0 8 (Int32.ofNat (P i))).1 0 + 1 + 1; omega), as_23, if_pos (by show w + 1 = (bgS s0 8 (Int32.ofNat (P i))).1 0 + 1; omega)]
    rfl
  have g2 : s1.2 23 (w + 2) = glI (Int32.ofNat 161) (Int32.ofNat (tun false)) := by
    rw [hs1, as_23, if_pos (by show w + 2 = (bgS s0 8 (Int32.ofNat (P i))).1 0 + 1 + 1; omega)]
    rfl
  clear hs1
  have E1 : SCE s1 m L := SCE_G (SCE_bg (by rw [hs0]; exact SCE_1 H.E (by omega))) G1
  have F1 : CSx s s1 w := CSx_G Fb (by rw [z7]; exact G1) (by rw [bg_8]; omega)
  have C1 := CHc_of (dp := dp) bb t E1 (i := i + 1) (by omega) (by omega) a1 hi1 a2 (by omega) (by omega) (by omega) (by omega)
  have R := x_ws (d := d) (f := N) bb t (by omega) C1 (TOP.of ⟨a0, af, g2, ⟨by decide, tun_b⟩⟩) (by omega) e2 (by omega)
  have gd := pgX_b (P := P) (V := V) t.M N 0 (dp + 1) (i + 1) (by decide) hi1
  generalize pgX K P V N 0 (dp + 1) (i + 1) = r1 at R gd ⊢
  rcases r1 with ⟨j, _ | tt⟩
  · obtain ⟨k1, s2, p2, F2, b2, f2, f3⟩ := R
    have gj : i + 1 ≤ j := gd.1
    exact ⟨1 + k1, s2, PL_t p1 p2, CVx_W F1 F2 (by omega), by omega, f2, f3⟩
  have gj : i + 1 ≤ j := gd.1
  have gm' : j < m := gd.2.1
  obtain ⟨k1, s2, p2, F2, b2, O2, d4, d5, d6, d7, y2, -, -⟩ := R
  rw [a7] at F2 d7
  rw [a6] at d6 y2
  have F12 : CSx s s2 w := CSx_G F1 (by rw [a7]; exact CGx_w F2 (by omega) (Nat.le_refl _)) (by omega)
  have G12 : CGx (bgS s0 8 (Int32.ofNat (P i))) s2 w (s.1 7) := CGx_t G1 (CGx_w F2 (by omega) (Nat.le_refl _))
  have n8 : s2.1 8 = s.1 8 + 1 := by rw [CGx_8 F2]; exact a8
  have T2 : TOP s2 (w + 1) 59 0 := TOP.of ⟨O2.w, O2.f, (F2.g (w + 1) (by omega)).trans g1, ⟨by decide, by decide⟩⟩
  show RTa (d + 10) h B n m (spe Bt n P U) K P f s w L b i dp 5 (tak K 59 j (j + 1, some (tNd (tE 11 (P i) 0) tt)))
  by_cases c59 : ¬ K j = 59
  · have p3 := st_tn (d := d) bb t O2.j gm' (by decide) T2 gw1 c59
    have e6 : tak K 59 j (j + 1, some (tNd (tE 11 (P i) 0) tt)) = (j, none) := if_neg c59
    rw [e6]
    exact ⟨1 + k1 + 1, _, PL_t (PL_t p1 p2) p3, CVx_W F12 (CWx_t (CGx_W (CGx_1 (w := w) (Or.inl rfl) (Nat.le_refl _))) CWx_f) (by omega), by omega, rfl, by show s2.1 6 ≤ _; omega⟩
  have c59 : K j = 59 := Classical.not_not.mp c59
  have hj1 : j + 1 < m := tkM_s t.M gm' c59 (by decide) (by decide)
  have p3 := st_tk (d := d) bb t O2.j gm' (by decide) T2 gw1 c59
  have e6 : tak K 59 j (j + 1, some (tNd (tE 11 (P i) 0) tt)) = (j + 1, some (tNd (tE 11 (P i) 0) tt)) := if_pos c59
  rw [e6]
  obtain ⟨s3, hs3⟩ : ∃ s3, s3 = u1 (u1 s2 0 (w + 1)) 1 (j + 1) := ⟨_, rfl⟩
  rw [← hs3] at p3
  have G3 : CGx s2 s3 (w + 1) (s.1 7) := by rw [hs3]; exact CGx_t (CGx_1 (Or.inl rfl) (by omega)) (CGx_1 (Or.inr (Or.inl rfl)) (by show s.1 7 ≤ s2.1 7; omega))
  have b0 : s3.1 0 = w + 1 := by rw [hs3]; rfl
  have b1 : s3.1 1 = j + 1 := by rw [hs3]; rfl
  have b2' : s3.1 2 = dp := by rw [hs3]; exact O2.d
  have b4 : s3.1 4 = s2.1 4 := by rw [hs3]; rfl
  have b5 : s3.1 5 = s2.1 5 := by rw [hs3]; rfl
  have b6 : s3.1 6 = s2.1 6 := by rw [hs3]; rfl
  have b7 : s3.1 7 = s2.1 7 := by rw [hs3]; rfl
  have b8 : s3.1 8 = s.1 8 + 1 := by rw [hs3]; exact n8
  have bf : s3.2 16 7 = -1 := by rw [hs3]; exact O2.f
  have bx : wSt s3 = wn (0, 0) (lwT (loE (spe Bt n P U) L) tt) := by rw [hs3, wSt_1 (by decide), wSt_1 (by decide), O2.x, ax]
  have b23 : s3.2 23 w = glI (Int32.ofNat 160) (Int32.ofNat 0) := by rw [hs3]; exact (F2.g w (by omega)).trans g0
  clear hs3
  have F13 : CSx s s3 w := CSx_G F12 (by rw [d7]; exact CGx_w G3 (by omega) (Nat.le_refl _)) (by omega)
  have G13 : CGx (bgS s0 8 (Int32.ofNat (P i))) s3 w (s.1 7) := CGx_t G12 (CGx_w G3 (by omega) (Nat.le_refl _))
  have T3 : TOP s3 w 160 0 := TOP.of ⟨b0, bf, b23, ⟨by decide, by decide⟩⟩
  have kk : tK (tE 11 (P i) 0) = 11 := tE_K (by decide)
  have kp : tP (tE 11 (P i) 0) = P i := tE_P (by decide) hP
  have e3' : (u1 s3 0 w).1 1 = j + 1 := b1
  have r9 : s3.1 9 = s.1 9 := F13.a 9 (by omega)
  have r11 : s3.1 11 = dp := by rw [F13.a 11 (by omega)]; exact B1
  have E3 : SCE s3 m L := SCE_G (SCE_G E1 F2) G3
  have nxe : nxE (tE 11 (P i) 0) tt L = L := by unfold nxE; rw [if_neg (by omega), if_neg (by omega)]
  have skn : skN (tE 11 (P i) 0) = 8 := by unfold skN; rw [if_neg (by omega), kk]
  have n24 : 23 + s3.1 8 = 24 + s.1 8 := by omega
  have fl : ∀ jj, jj ≠ 5 ∧ jj ≠ 6 ∧ jj ≠ 11 → s3.2 (24 + s.1 8) jj = stF s0 8 (Int32.ofNat (P i)) jj := fun jj hjj => by
    have := bg_k (s := s0) G13 hjj
    rw [o8] at this
    exact this
  have o12 : s0.1 12 = cnZl L := by rw [hs0]; exact H.E.z
  have o13 : s0.1 13 = cnAl L := by rw [hs0]; exact H.E.a
  have o6 : s0.1 6 = s.1 6 := by rw [hs0]; rfl
  have y3 : SUX (loE (spe Bt n P U) L) s3 (s.1 6) tt false := SUX_g G3 y2
  refine ⟨tE 11 (P i) 0, tt, rfl, ?_⟩
  by_cases rl : dp = 1 ∧ K (j + 1) = 125
  · have p4 := it_66 (d := d + 9) bb T3 gw (by decide) (c_66n (d := d + 3) (s := u1 s3 0 w) bb t (by rw [e3']; exact hj1) (by show 0 < s3.1 8; omega) (by show s3.1 11 = 1; omega) (by rw [e3']; exact rl.2) (by show 6 * s3.1 9 + 5 < _; omega))
    have gi : (u1 s3 0 w).2 (23 + (u1 s3 0 w).1 8) 1 = Int32.ofNat (s.1 8) := by
      show s3.2 (23 + s3.1 8) 1 = _
      rw [n24, fl 1 (by decide)]
      show Int32.ofNat (s0.1 8) = _
      rw [o8]
    obtain ⟨s4, hs4⟩ : ∃ s4, s4 = gbS (u1 s3 0 w) ((u1 s3 0 w).2 (23 + (u1 s3 0 w).1 8) 1) := ⟨_, rfl⟩
    have es4 : s4 = u2 (u1 s3 0 w) 15 (6 * s3.1 9 + 5) (Int32.ofNat (s.1 8)) := by rw [hs4, gi]; rfl
    rw [← hs4] at p4
    clear hs4
    have r4 : ∀ o jj, o ≠ 15 → s4.2 o jj = s3.2 o jj := fun o jj ho => by rw [es4, u2_2, if_neg (fun z => ho z.1)]; rfl
    have r15 : ∀ jj, jj ≠ 6 * s.1 9 + 5 → s4.2 15 jj = s3.2 15 jj := fun jj hjj => by rw [es4, u2_2, if_neg (by omega)]; rfl
    have x4 : ∀ c, c ≠ 0 → s4.1 c = s3.1 c := fun c hc => by rw [es4]; exact if_neg hc
    have F34 : CRx s3 s4 (s3.1 7) := ⟨⟨by rw [x4 4 (by decide)]; omega, by rw [x4 5 (by decide)]; omega, by rw [x4 6 (by decide)]; omega, by rw [x4 7 (by decide)]; omega⟩, fun _ _ => r4 _ _ (by decide), fun o _ h1 h2 _ => r4 _ _ (by omega), fun o _ h1 _ => r4 _ _ (by omega), fun hh => absurd hh (by rw [x4 6 (by decide)]; omega), fun _ => ⟨x4 4 (by decide), x4 5 (by decide)⟩, fun o _ h1 _ => r4 _ _ (by omega)⟩
    have S34 : CSx s3 s4 w := CSx.of ⟨F34, fun c hc => x4 c (by omega), by rw [x4 8 (by decide)]; omega, fun jj _ => r4 _ _ (by decide), fun o jj hh => r4 _ _ (by omega), fun jj hh => r15 jj (by rw [r9] at hh; exact hh), fun k jj _ => r4 _ _ (by omega)⟩
    have F14 := CSx_t F13 S34
    refine ⟨1 + k1 + 1 + 1, s4, PL_t (PL_t (PL_t p1 p2) p3) p4, F14, by omega, TOK.of ⟨by rw [es4]; rfl, by rw [x4 1 (by decide)]; exact b1, by rw [x4 2 (by decide)]; exact b2', by rw [r4 16 7 (by decide)]; exact bf, ⟨by rw [x4 4 (by decide)]; omega, by rw [x4 5 (by decide)]; omega, by rw [x4 6 (by decide)]; omega, by rw [x4 7 (by decide)]; omega⟩, by rw [x4 8 (by decide)]; omega⟩, by rw [nxe]; exact SCE_g E3 (x4 10 (by decide)) (x4 12 (by decide)) (x4 13 (by decide)) (fun o jj h1 h2 h3 => r4 _ _ (by omega)), by rw [nxe]; omega, ?_, ?_⟩
    · have e8 : s4.1 8 = s.1 8 + 1 := by rw [x4 8 (by decide)]; exact b8
      have fl4 : ∀ jj, jj ≠ 5 ∧ jj ≠ 6 ∧ jj ≠ 11 → s4.2 (24 + s.1 8) jj = stF s0 8 (Int32.ofNat (P i)) jj := fun jj hjj => (r4 _ _ (by omega)).trans (fl jj hjj)
      refine ⟨⟨by rw [fl4 0 (by decide), skn]; rfl, by rw [fl4 1 (by decide)]; show Int32.ofNat (s0.1 8) = _; rw [o8], by rw [fl4 2 (by decide), kp]; rfl, by rw [fl4 3 (by decide)]; show Int32.ofNat (s0.1 12) = _; rw [o12], by rw [fl4 4 (by decide)]; show Int32.ofNat (s0.1 13) = _; rw [o13], ?_⟩, ?_⟩
      · have ws : wrS (spe Bt n P U) (s4.2 15) (s.1 9) L b (decide (dp = 1 ∧ K (j + 1) = 125)) (tE 11 (P i) 0) tt = lwT (loE (spe Bt n P U) L) tt := by
          rcases tt with _ | ⟨a, cc, _ | ⟨_, _, _⟩⟩
          all_goals
            show (if tK (tE 11 (P i) 0) = 3 then _ else if tK (tE 11 (P i) 0) = 4 then _ else if tK (tE 11 (P i) 0) = 6 then _ else if tK (tE 11 (P i) 0) = 7 then _ else if tK (tE 11 (P i) 0) = 8 ∨ tK (tE 11 (P i) 0) = 9 then _ else if tK (tE 11 (P i) 0) = 11 then _ else _) = _
            rw [if_neg (by omega), if_neg (by omega), if_neg (by omega), if_neg (by omega), if_neg (by omega), if_pos kk, if_pos (decide_eq_true rl)]
        rw [ws, ← bx, r4 _ _ (by omega), r4 _ _ (by omega)]
        unfold wSt
        rw [n24]
      · exact Or.inr (Or.inr (Or.inr (Or.inr (Or.inr (Or.inr (Or.inr (Or.inr ⟨kk, s.1 6, e8, by rw [fl4 10 (by decide)]; show Int32.ofNat (s0.1 6) = _; rw [o6], SUX_r F34 y3⟩)))))))
    · rw [if_pos ⟨kk, rl⟩, es4, u2_2, if_pos ⟨rfl, by rw [r9]⟩]
  · have p4 := it_66 (d := d + 9) bb T3 gw (by decide) (c_66o (d := d + 3) (s := u1 s3 0 w) bb t (by rw [e3']; exact hj1) (by show 0 < s3.1 8; omega) (by show s3.1 11 < 1000; omega) (by rw [e3']; show ¬ (s3.1 11 = 1 ∧ K (j + 1) = 125); rw [r11]; exact rl))
    have gi : (u1 s3 0 w).2 (23 + (u1 s3 0 w).1 8) 2 = Int32.ofNat (P i) := by
      show s3.2 (23 + s3.1 8) 2 = _
      rw [n24, fl 2 (by decide)]
      rfl
    obtain ⟨s4, hs4⟩ : ∃ s4, s4 = nfS (u1 s3 0 w) 6 ((u1 s3 0 w).2 (23 + (u1 s3 0 w).1 8) 2) := ⟨_, rfl⟩
    have es4 : s4 = u2 (u2 (u1 s3 0 w) (24 + s.1 8) 5 6) (24 + s.1 8) 6 (Int32.ofNat (P i)) := by
      rw [hs4, gi]
      show u2 (u2 (u1 s3 0 w) (23 + s3.1 8) 5 6) (23 + s3.1 8) 6 (Int32.ofNat (P i)) = _
      rw [n24]
    rw [← hs4] at p4
    clear hs4
    have r4 : ∀ o jj, ¬ (o = 24 + s.1 8 ∧ (jj = 5 ∨ jj = 6)) → s4.2 o jj = s3.2 o jj := fun o jj ho => by rw [es4, u2_2, if_neg (by omega), u2_2, if_neg (by omega)]; rfl
    have x4 : ∀ c, c ≠ 0 → s4.1 c = s3.1 c := fun c hc => by rw [es4]; exact if_neg hc
    have F34 : CRx s3 s4 (s3.1 7) := ⟨⟨by rw [x4 4 (by decide)]; omega, by rw [x4 5 (by decide)]; omega, by rw [x4 6 (by decide)]; omega, by rw [x4 7 (by decide)]; omega⟩, fun _ _ => r4 _ _ (by omega), fun o _ h1 h2 _ => r4 _ _ (by omega), fun o _ h1 _ => r4 _ _ (by omega), fun hh => absurd hh (by rw [x4 6 (by decide)]; omega), fun _ => ⟨x4 4 (by decide), x4 5 (by decide)⟩, fun o _ h1 _ => r4 _ _ (by omega)⟩
    have F14 : CSx s s4 w := CSx.of ⟨CRx_t F13.R (CRx_w F34 (by omega)), fun c hc => (x4 c (by omega)).trans (F13.a c hc), by rw [x4 8 (by decide)]; omega, fun jj hj' => (r4 _ _ (by omega)).trans (F13.g jj hj'), fun o jj hh => (r4 _ _ (by omega)).trans (F13.o o jj hh), fun jj hh => (r4 _ _ (by omega)).trans (F13.h jj hh), fun k jj hk => (r4 _ _ (by omega)).trans (F13.u k jj hk)⟩
    refine ⟨1 + k1 + 1 + 1, s4, PL_t (PL_t (PL_t p1 p2) p3) p4, F14, by omega, TOK.of ⟨by rw [es4]; rfl, by rw [x4 1 (by decide)]; exact b1, by rw [x4 2 (by decide)]; exact b2', by rw [r4 16 7 (by omega)]; exact bf, ⟨by rw [x4 4 (by decide)]; omega, by rw [x4 5 (by decide)]; omega, by rw [x4 6 (by decide)]; omega, by rw [x4 7 (by decide)]; omega⟩, by rw [x4 8 (by decide)]; omega⟩, by rw [nxe]; exact SCE_g E3 (x4 10 (by decide)) (x4 12 (by decide)) (x4 13 (by decide)) (fun o jj h1 h2 h3 => r4 _ _ (by omega)), by rw [nxe]; omega, ?_, ?_⟩
    · have e8 : s4.1 8 = s.1 8 + 1 := by rw [x4 8 (by decide)]; exact b8
      have fl4 : ∀ jj, jj ≠ 5 ∧ jj ≠ 6 ∧ jj ≠ 11 → s4.2 (24 + s.1 8) jj = stF s0 8 (Int32.ofNat (P i)) jj := fun jj hjj => (r4 _ _ (by omega)).trans (fl jj hjj)
      refine ⟨⟨by rw [fl4 0 (by decide), skn]; rfl, by rw [fl4 1 (by decide)]; show Int32.ofNat (s0.1 8) = _; rw [o8], by rw [fl4 2 (by decide), kp]; rfl, by rw [fl4 3 (by decide)]; show Int32.ofNat (s0.1 12) = _; rw [o12], by rw [fl4 4 (by decide)]; show Int32.ofNat (s0.1 13) = _; rw [o13], ?_⟩, ?_⟩
      · have ws : wrS (spe Bt n P U) (s4.2 15) (s.1 9) L b (decide (dp = 1 ∧ K (j + 1) = 125)) (tE 11 (P i) 0) tt = (6, P i) := by
          rcases tt with _ | ⟨a, cc, _ | ⟨_, _, _⟩⟩
          all_goals
            show (if tK (tE 11 (P i) 0) = 3 then _ else if tK (tE 11 (P i) 0) = 4 then _ else if tK (tE 11 (P i) 0) = 6 then _ else if tK (tE 11 (P i) 0) = 7 then _ else if tK (tE 11 (P i) 0) = 8 ∨ tK (tE 11 (P i) 0) = 9 then _ else if tK (tE 11 (P i) 0) = 11 then _ else _) = _
            rw [if_neg (by omega), if_neg (by omega), if_neg (by omega), if_neg (by omega), if_neg (by omega), if_pos kk, if_neg (by rw [decide_eq_false rl]; decide), kp]
        rw [ws, es4, u2_2, if_neg (by omega), u2_2, if_pos ⟨rfl, rfl⟩, u2_2, if_pos ⟨rfl, rfl⟩]
        rfl
      · exact Or.inr (Or.inr (Or.inr (Or.inr (Or.inr (Or.inr (Or.inr (Or.inr ⟨kk, s.1 6, e8, by rw [fl4 10 (by decide)]; show Int32.ofNat (s0.1 6) = _; rw [o6], SUX_r F34 y3⟩)))))))
    · rw [if_neg (fun z => rl z.2), r4 _ _ (by omega), G13.r 15 _ (by decide) (by omega) (by decide) (by omega), bg_2 (by omega), hs0]
      rfl
end SAs
