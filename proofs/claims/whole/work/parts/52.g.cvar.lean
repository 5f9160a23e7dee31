set_option maxRecDepth 100000
/-! the class's parser over statements: var NAME -/
def VNx (Bt : Nat → Int32) (n m : Nat) (P U : Nat → Nat) (s sf : cps) (L : cen) (w b i dp : Nat) : Prop := (IST s sf w 1 (Int32.ofNat (P i))) ∧ (SCE sf m L) ∧ (wSt sf = wn (0, 0) (if twE (spe Bt n P U) b L (i + 1) = true then (2, P (i + 1)) else (0, 0))) ∧ (TOP sf w 151 0) ∧ (sf.1 1 = i + 2) ∧ (sf.1 2 = dp) ∧ (sf.1 4 = s.1 4 ∧ sf.1 5 = s.1 5 ∧ sf.1 6 = s.1 6 ∧ sf.1 7 = s.1 7) ∧ (sf.2 (24 + s.1 8) 7 = Int32.ofNat (i + 1)) ∧ (sf.2 (24 + s.1 8) 9 = 0) ∧ (sf.2 (24 + s.1 8) 11 = 0)
theorem VNx.of {Bt : Nat → Int32} {n m : Nat} {P U : Nat → Nat} {s sf : cps} {L : cen} {w b i dp : Nat} (q : (IST s sf w 1 (Int32.ofNat (P i))) ∧ (SCE sf m L) ∧ (wSt sf = wn (0, 0) (if twE (spe Bt n P U) b L (i + 1) = true then (2, P (i + 1)) else (0, 0))) ∧ (TOP sf w 151 0) ∧ (sf.1 1 = i + 2) ∧ (sf.1 2 = dp) ∧ (sf.1 4 = s.1 4 ∧ sf.1 5 = s.1 5 ∧ sf.1 6 = s.1 6 ∧ sf.1 7 = s.1 7) ∧ (sf.2 (24 + s.1 8) 7 = Int32.ofNat (i + 1)) ∧ (sf.2 (24 + s.1 8) 9 = 0) ∧ (sf.2 (24 + s.1 8) 11 = 0)) : VNx Bt n m P U s sf L w b i dp := q
theorem VNx.I {Bt : Nat → Int32} {n m : Nat} {P U : Nat → Nat} {s sf : cps} {L : cen} {w b i dp : Nat} (q : VNx Bt n m P U s sf L w b i dp) : IST s sf w 1 (Int32.ofNat (P i)) := q.1
theorem VNx.E {Bt : Nat → Int32} {n m : Nat} {P U : Nat → Nat} {s sf : cps} {L : cen} {w b i dp : Nat} (q : VNx Bt n m P U s sf L w b i dp) : SCE sf m L := q.2.1
theorem VNx.x {Bt : Nat → Int32} {n m : Nat} {P U : Nat → Nat} {s sf : cps} {L : cen} {w b i dp : Nat} (q : VNx Bt n m P U s sf L w b i dp) : wSt sf = wn (0, 0) (if twE (spe Bt n P U) b L (i + 1) = true then (2, P (i + 1)) else (0, 0)) := q.2.2.1
theorem VNx.T {Bt : Nat → Int32} {n m : Nat} {P U : Nat → Nat} {s sf : cps} {L : cen} {w b i dp : Nat} (q : VNx Bt n m P U s sf L w b i dp) : TOP sf w 151 0 := q.2.2.2.1
theorem VNx.j {Bt : Nat → Int32} {n m : Nat} {P U : Nat → Nat} {s sf : cps} {L : cen} {w b i dp : Nat} (q : VNx Bt n m P U s sf L w b i dp) : sf.1 1 = i + 2 := q.2.2.2.2.1
theorem VNx.d {Bt : Nat → Int32} {n m : Nat} {P U : Nat → Nat} {s sf : cps} {L : cen} {w b i dp : Nat} (q : VNx Bt n m P U s sf L w b i dp) : sf.1 2 = dp := q.2.2.2.2.2.1
theorem VNx.c {Bt : Nat → Int32} {n m : Nat} {P U : Nat → Nat} {s sf : cps} {L : cen} {w b i dp : Nat} (q : VNx Bt n m P U s sf L w b i dp) : sf.1 4 = s.1 4 ∧ sf.1 5 = s.1 5 ∧ sf.1 6 = s.1 6 ∧ sf.1 7 = s.1 7 := q.2.2.2.2.2.2.1
theorem VNx.u {Bt : Nat → Int32} {n m : Nat} {P U : Nat → Nat} {s sf : cps} {L : cen} {w b i dp : Nat} (q : VNx Bt n m P U s sf L w b i dp) : sf.2 (24 + s.1 8) 7 = Int32.ofNat (i + 1) := q.2.2.2.2.2.2.2.1
theorem VNx.v {Bt : Nat → Int32} {n m : Nat} {P U : Nat → Nat} {s sf : cps} {L : cen} {w b i dp : Nat} (q : VNx Bt n m P U s sf L w b i dp) : sf.2 (24 + s.1 8) 9 = 0 := q.2.2.2.2.2.2.2.2.1
theorem VNx.o {Bt : Nat → Int32} {n m : Nat} {P U : Nat → Nat} {s sf : cps} {L : cen} {w b i dp : Nat} (q : VNx Bt n m P U s sf L w b i dp) : sf.2 (24 + s.1 8) 11 = 0 := q.2.2.2.2.2.2.2.2.2
section VNs
variable {d : Nat} {h : mh_H} {B n m : Nat} {Bt : Nat → Int32} {K : Nat → Int32} {P U : Nat → Nat} {V : Nat → Int} {s s1 s2 s' : cps} {L : cen} {lo : lkt} {w w0 b i dp N f c v j : Nat} {kd p x y : Int32}
theorem nt_o {o k : Nat} (ho : ¬ (o = 23 + s.1 8 ∧ (k = 5 ∨ k = 6))) : (ntS s x y).2 o k = s.2 o k := by
  unfold ntS nfS
  split
  · rw [u2_2, if_neg (by omega), u2_2, if_neg (by omega)]
  · rfl
theorem SCE_nt (E : SCE s m L) : SCE (ntS s x y) m L := SCE_g E (by rw [nt_1]) (by rw [nt_1]) (by rw [nt_1]) (fun o k h1 h2 h3 => nt_o (by omega))
theorem ad_1 (h1 : c ≠ 10) (h2 : c ≠ 12) (h3 : c ≠ 13) : (adS s x y).1 c = s.1 c := by
  unfold adS
  split
  · rw [u1_1, if_neg h1, u1_1, if_neg h2]; rfl
  · rw [u1_1, if_neg h1, u1_1, if_neg h3]; rfl
theorem ad_2 {o k : Nat} (ho : o < 20 ∨ 22 < o) : (adS s x y).2 o k = s.2 o k := by
  unfold adS
  split
  · rw [u1_2, u1_2, u2_2, if_neg (by omega), u2_2, if_neg (by omega), u2_2, if_neg (by omega)]
  · rw [u1_2, u1_2, u2_2, if_neg (by omega), u2_2, if_neg (by omega), u2_2, if_neg (by omega)]
theorem CSx_ad : CSx s (adS s x y) w := by
  have e1 : ∀ c, c ≠ 10 → c ≠ 12 → c ≠ 13 → (adS s x y).1 c = s.1 c := fun c => ad_1
  have e2 : ∀ o k, o < 20 ∨ 22 < o → (adS s x y).2 o k = s.2 o k := fun o k => ad_2
  have e4 := e1 4 (by decide) (by decide) (by decide)
  have e5 := e1 5 (by decide) (by decide) (by decide)
  have e6 := e1 6 (by decide) (by decide) (by decide)
  have e7 := e1 7 (by decide) (by decide) (by decide)
  have e8 := e1 8 (by decide) (by decide) (by decide)
  exact CSx.of ⟨⟨⟨by omega, by omega, by omega, by omega⟩, fun k _ => e2 _ _ (by omega), fun o k _ _ _ => e2 _ _ (by omega), fun o k _ _ => e2 _ _ (by omega), fun h => absurd h (by omega), fun _ => ⟨e4, e5⟩, fun o k _ _ => e2 _ _ (by omega)⟩, fun c hc => e1 c (by omega) (by omega) (by omega), by omega, fun _ _ => e2 _ _ (by omega), fun o k h => e2 _ _ (by omega), fun k _ => e2 _ _ (by omega), fun k l _ => e2 _ _ (by omega)⟩
theorem IST_ad (I : IST s s1 w kd p) : IST s (adS s1 x y) w kd p := IST.of ⟨CSx_t I.F CSx_ad, by rw [ad_1 (by decide) (by decide) (by decide)]; exact I.n, fun j hj => by rw [ad_2 (by omega)]; exact I.f j hj, by rw [ad_2 (by omega)]; exact I.h⟩
theorem wSt_ad : wSt (adS s x y) = wSt s := wSt_f (ad_1 (by decide) (by decide) (by decide)) (ad_2 (by omega)) (ad_2 (by omega))
/-- VAR_DONE -/
theorem t_vd (bb : CPB h B n) (t : CTK h B n m Bt K P U V) (T : TOP s w 153 0) (gw : w < gL n) (E : SCE s m L) (hl : 2 * L.length ≤ i) (hi : i < m) (hN : 0 < s.1 8) : PL (d + 10) h B 1 s (adS (u1 s 0 w) (s.2 (23 + s.1 8) 7) (s.2 (23 + s.1 8) 9)) := by
  have hm := t.m
  have e := E.c
  exact it_66 (d := d + 9) bb T gw (by decide) (c_66g (d := d + 3) (s := u1 s 0 w) bb hN (by show s.1 10 < n / 2 + 1; omega))
theorem t_vn (bb : CPB h B n) (t : CTK h B n m Bt K P U V) (H : CHt n m s L b i dp) (T : TOP s w 149 0) (hw : w ≤ 12 * dp) (q : K i = 5) : (¬ K (i + 1) = 2 → RTn (d + 10) h B n P s i (i + 1) 9) ∧ (K (i + 1) = 2 → ∃ sf, PL (d + 10) h B 2 s sf ∧ VNx Bt n m P U s sf L w b i dp) := by
  have hb := H.j
  have hm := t.m
  have hn := bb.n
  obtain ⟨e1, e2, e3⟩ := H.e
  obtain ⟨l1, l2⟩ := H.l
  obtain ⟨B1, B2⟩ := H.B
  obtain ⟨c4, c5, c6, c7⟩ := H.c
  have hN3 := H.N
  have hF := H.F
  have hP := p16 bb t hb
  have gw : w < gL n := gL_w t hb e3 e2 (by omega)
  have gw1 : w + 1 < gL n := gL_w t hb e3 e2 (by omega)
  have gw2 : w + 2 < gL n := gL_w t hb e3 e2 (by omega)
  have gw9 : w + 10 ≤ gL n := gL_w (w := w + 9) t hb e3 e2 (by omega)
  have hi1 : i + 1 < m := tkM_s t.M hb q (by decide) (by decide)
  have e : (u1 s 0 w).1 1 = i := H.i
  have z := c_58a (d := d) (s := u1 s 0 w) bb t (by rw [e]; exact hb) (by rw [e]; exact q) (by show s.1 8 < n / 3 + 2; omega) (by show w + 2 ≤ gL n; omega)
  rw [e] at z
  have p1 := it_58 bb T gw z
  have G := BGN_bg (kd := 1) (p := Int32.ofNat (P i)) H T
  have q9 : (bgS (u1 s 0 w) 1 (Int32.ofNat (P i))).2 (24 + s.1 8) 9 = 0 := if_pos rfl
  have q11 : (bgS (u1 s 0 w) 1 (Int32.ofNat (P i))).2 (24 + s.1 8) 11 = 0 := if_pos rfl
  generalize bgS (u1 s 0 w) 1 (Int32.ofNat (P i)) = sb at p1 G q9 q11
  obtain ⟨b4, b5, b6, b7⟩ := G.c
  have b0 := G.w
  have b8 := G.I.n
  have hNb : 0 < sb.1 8 := by omega
  obtain ⟨s1, hs1⟩ : ∃ s1, s1 = asS (asS (u1 sb 1 (i + 1)) 151 0) 150 0 := ⟨_, rfl⟩
  rw [← hs1] at p1
  have G1 : CGx sb s1 w (sb.1 7) := by
    rw [hs1]
    exact CGx_as' (CGx_as' (CGx_1 (Or.inr (Or.inl rfl)) (Nat.le_refl _)) (by show w ≤ sb.1 0; omega)) (by show w ≤ sb.1 0 + 1; omega)
  have a0 : s1.1 0 = w + 2 := by rw [hs1]; show sb.1 0 + 1 + 1 = _; omega
  have a1 : s1.1 1 = i + 1 := by rw [hs1]; rfl
  have a2 : s1.1 2 = dp := by rw [hs1]; exact G.d
  have a4 : s1.1 4 = s.1 4 := by rw [hs1]; exact b4
  have a5 : s1.1 5 = s.1 5 := by rw [hs1]; exact b5
  have a6 : s1.1 6 = s.1 6 := by rw [hs1]; exact b6
  have a7 : s1.1 7 = s.1 7 := by rw [hs1]; exact b7
  have a8 : s1.1 8 = s.1 8 + 1 := by rw [hs1]; exact b8
  have af : s1.2 16 7 = -1 := by rw [hs1]; exact G.f
  have ax : wSt s1 = (0, 0) := by
    rw [hs1]
    repeat (first | refine (wSt_as (by exact hNb)).trans ?_ | refine (wSt_em (by exact hNb)).trans ?_ | refine (wSt_pt (by exact hNb)).trans ?_ | refine (wSt_1 (by decide)).trans ?_)
    exact G.x
  have g1 : s1.2 23 (w + 1) = glI (Int32.ofNat 150) (Int32.ofNat 0) := by
    rw [hs1, as_23, if_pos (by show w + 1 = sb.1 0 + 1; omega)]
    rfl
  have g0 : s1.2 23 w = glI (Int32.ofNat 151) (Int32.ofNat 0) := by
    rw [hs1, as_23, if_neg (by show ¬ w = sb.1 0 + 1; omega), as_23, if_pos (by show w = sb.1 0; omega)]
    rfl
  have f9 : s1.2 (24 + s.1 8) 9 = 0 := (G1.u (24 + s.1 8) 9 (by omega) (by omega)).trans q9
  have f11 : s1.2 (24 + s.1 8) 11 = 0 := by
    rw [hs1]
    show (if 24 + s.1 8 = 23 ∧ _ then _ else if 24 + s.1 8 = 23 ∧ _ then _ else sb.2 (24 + s.1 8) 11) = 0
    rw [if_neg (by omega), if_neg (by omega)]
    exact q11
  clear hs1
  have I1 := IST_G G.I G1
  have E1 : SCE (u1 s1 0 (w + 1)) m L := SCE_1 (SCE_G G.E G1) (by omega)
  have C := SCE_C (n := n) E1 (by omega) hn hm.2
  have a11 : s1.1 11 = s.1 11 := I1.F.a 11 (by omega)
  have h19 : s1.2 19 (s1.1 11 - 1) = Int32.ofNat (L.length - b) := by rw [a11, I1.F.o 19 _ (Or.inr ⟨rfl, by omega⟩), B1]; exact B2
  have z2 := c_66a (d := d + 3) (s := u1 s1 0 (w + 1)) bb t C (k0 := L.length - b) (by show s1.1 1 < m; omega) (by show 0 < s1.1 8; omega) (by show 1 ≤ s1.1 11 ∧ s1.1 11 ≤ 62; omega) h19 (by omega)
  have e11 : (u1 s1 0 (w + 1)).1 1 = i + 1 := a1
  rw [e11, SCE_t E1 (by omega) (by omega), show L.length - (L.length - b) = b from by omega] at z2
  have p2 := it_66 (d := d + 9) bb (TOP.of ⟨a0, af, g1, ⟨by decide, by decide⟩⟩) gw1 (by decide) z2
  obtain ⟨sd, hsd⟩ : ∃ sd, sd = (if twE (spe Bt n P U) b L (i + 1) = true then ntS (u1 s1 0 (w + 1)) 2 (Int32.ofNat (P (i + 1))) else u1 s1 0 (w + 1)) := ⟨_, rfl⟩
  rw [← hsd] at p2
  have d1 : sd.1 = (u1 s1 0 (w + 1)).1 := by
    rw [hsd]
    split
    · exact nt_1
    · rfl
  have d2 : ∀ o j, ¬ (o = 24 + s.1 8 ∧ (j = 5 ∨ j = 6)) → sd.2 o j = s1.2 o j := fun o j ho => by
    rw [hsd]
    split
    · exact nt_o (s := u1 s1 0 (w + 1)) (by show ¬ (o = 23 + s1.1 8 ∧ (j = 5 ∨ j = 6)); omega)
    · rfl
  have dI : IST s sd w 1 (Int32.ofNat (P i)) := by
    rw [hsd]
    split
    · exact IST_nt (IST_1 I1 (by decide))
    · exact IST_1 I1 (by decide)
  have dE : SCE sd m L := by
    rw [hsd]
    split
    · exact SCE_nt E1
    · exact E1
  have dx : wSt sd = wn (0, 0) (if twE (spe Bt n P U) b L (i + 1) = true then (2, P (i + 1)) else (0, 0)) := by
    by_cases cc : twE (spe Bt n P U) b L (i + 1) = true
    · rw [hsd, if_pos cc, if_pos cc, ← ax]
      exact (wSt_nt (s := u1 s1 0 (w + 1)) (k := 2) (p := P (i + 1)) (by decide))
    · rw [hsd, if_neg cc, if_neg cc, wn_0, wSt_1 (by decide)]
      exact ax
  clear hsd
  have ee : 23 + (u1 s1 0 (w + 1)).1 8 = 23 + sd.1 8 := by rw [d1]
  obtain ⟨se, hse⟩ : ∃ se, se = u2 sd (23 + sd.1 8) 7 (Int32.ofNat (i + 1)) := ⟨_, rfl⟩
  rw [ee, ← hse] at p2
  have c1 : ∀ c, c ≠ 0 → se.1 c = s1.1 c := fun c hc => by
    rw [hse]
    show sd.1 c = _
    rw [d1]
    exact if_neg hc
  have d8 : sd.1 8 = s.1 8 + 1 := by rw [d1]; exact a8
  have r2 : ∀ o j, ¬ (o = 24 + s.1 8 ∧ (j = 5 ∨ j = 6 ∨ j = 7)) → se.2 o j = s1.2 o j := fun o j ho => by rw [hse, u2_2, if_neg (by omega)]; exact d2 o j (by omega)
  have ef : se.2 16 7 = -1 := (r2 16 7 (by omega)).trans af
  have x0 : se.1 0 = w + 1 := by rw [hse]; show sd.1 0 = _; rw [d1]; rfl
  have x1 : se.1 1 = i + 1 := (c1 1 (by decide)).trans a1
  have y4 := c1 4 (by decide)
  have y5 := c1 5 (by decide)
  have y6 := c1 6 (by decide)
  have y7 := c1 7 (by decide)
  have y8 := c1 8 (by decide)
  have eI : IST s se w 1 (Int32.ofNat (P i)) := by rw [hse]; exact IST_u dI (by decide)
  have eE : SCE se m L := by rw [hse]; exact SCE_2 dE (by omega)
  have ex : wSt se = wn (0, 0) (if twE (spe Bt n P U) b L (i + 1) = true then (2, P (i + 1)) else (0, 0)) := by
    rw [← dx, hse]
    exact wSt_f rfl (by rw [u2_2, if_neg (by omega)]) (by rw [u2_2, if_neg (by omega)])
  have e7 : se.2 (24 + s.1 8) 7 = Int32.ofNat (i + 1) := by rw [hse, u2_2, if_pos ⟨by omega, rfl⟩]
  clear hse
  refine ⟨fun cc => ?_, fun cc => ?_⟩
  · rw [tkS_n ef (by rw [x1]; exact cc), x1] at p2
    exact ⟨1 + 1, _, PL_t p1 p2, CVx_W eI.F CWx_f (by omega), by omega, rfl, by show se.1 6 ≤ _; omega⟩
  · rw [tkS_p ef (by rw [x1]; exact cc), x1] at p2
    exact ⟨_, PL_t p1 p2, VNx.of ⟨IST_1 eI (by decide), SCE_1 eE (by decide), by rw [wSt_1 (by decide)]; exact ex, TOP.of ⟨x0, ef, (r2 23 w (by omega)).trans g0, ⟨by decide, by decide⟩⟩, rfl, (c1 2 (by decide)).trans a2, ⟨y4.trans a4, y5.trans a5, y6.trans a6, y7.trans a7⟩, e7, (r2 _ 9 (by omega)).trans f9, (r2 _ 11 (by omega)).trans f11⟩⟩
end VNs
