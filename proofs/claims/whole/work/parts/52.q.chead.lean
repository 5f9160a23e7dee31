set_option maxRecDepth 100000
/-! the class's parser over statements with BLOCKs: the COND -/
def IOT (s s' : cps) (w : Nat) (kd p : Int32) : Prop := (CRx s s' (s.1 7)) ∧ (∀ c, c = 9 ∨ c = 11 → s'.1 c = s.1 c) ∧ (s'.1 3 = s.1 3 + 1) ∧ (s.1 8 < s'.1 8) ∧ (∀ j, j < w → s'.2 23 j = s.2 23 j) ∧ (∀ o j, (o = 17 ∧ j < s.1 3) ∨ (o = 19 ∧ j < s.1 11) → s'.2 o j = s.2 o j) ∧ (s'.2 17 (s.1 3) = Int32.ofNat (s.1 8)) ∧ (∀ j, s'.2 15 j = s.2 15 j) ∧ (∀ k j, k < s.1 8 → s'.2 (24 + k) j = s.2 (24 + k) j) ∧ (∀ j, j < 5 ∨ j = 10 ∨ j = 12 → s'.2 (24 + s.1 8) j = stF s kd p j)
theorem IOT.of {s s' : cps} {w : Nat} {kd p : Int32} (q : (CRx s s' (s.1 7)) ∧ (∀ c, c = 9 ∨ c = 11 → s'.1 c = s.1 c) ∧ (s'.1 3 = s.1 3 + 1) ∧ (s.1 8 < s'.1 8) ∧ (∀ j, j < w → s'.2 23 j = s.2 23 j) ∧ (∀ o j, (o = 17 ∧ j < s.1 3) ∨ (o = 19 ∧ j < s.1 11) → s'.2 o j = s.2 o j) ∧ (s'.2 17 (s.1 3) = Int32.ofNat (s.1 8)) ∧ (∀ j, s'.2 15 j = s.2 15 j) ∧ (∀ k j, k < s.1 8 → s'.2 (24 + k) j = s.2 (24 + k) j) ∧ (∀ j, j < 5 ∨ j = 10 ∨ j = 12 → s'.2 (24 + s.1 8) j = stF s kd p j)) : IOT s s' w kd p := q
theorem IOT.R {s s' : cps} {w : Nat} {kd p : Int32} (q : IOT s s' w kd p) : CRx s s' (s.1 7) := q.1
theorem IOT.a {s s' : cps} {w : Nat} {kd p : Int32} (q : IOT s s' w kd p) : ∀ c, c = 9 ∨ c = 11 → s'.1 c = s.1 c := q.2.1
theorem IOT.b {s s' : cps} {w : Nat} {kd p : Int32} (q : IOT s s' w kd p) : s'.1 3 = s.1 3 + 1 := q.2.2.1
theorem IOT.m {s s' : cps} {w : Nat} {kd p : Int32} (q : IOT s s' w kd p) : s.1 8 < s'.1 8 := q.2.2.2.1
theorem IOT.g {s s' : cps} {w : Nat} {kd p : Int32} (q : IOT s s' w kd p) : ∀ j, j < w → s'.2 23 j = s.2 23 j := q.2.2.2.2.1
theorem IOT.o {s s' : cps} {w : Nat} {kd p : Int32} (q : IOT s s' w kd p) : ∀ o j, (o = 17 ∧ j < s.1 3) ∨ (o = 19 ∧ j < s.1 11) → s'.2 o j = s.2 o j := q.2.2.2.2.2.1
theorem IOT.t {s s' : cps} {w : Nat} {kd p : Int32} (q : IOT s s' w kd p) : s'.2 17 (s.1 3) = Int32.ofNat (s.1 8) := q.2.2.2.2.2.2.1
theorem IOT.h {s s' : cps} {w : Nat} {kd p : Int32} (q : IOT s s' w kd p) : ∀ j, s'.2 15 j = s.2 15 j := q.2.2.2.2.2.2.2.1
theorem IOT.u {s s' : cps} {w : Nat} {kd p : Int32} (q : IOT s s' w kd p) : ∀ k j, k < s.1 8 → s'.2 (24 + k) j = s.2 (24 + k) j := q.2.2.2.2.2.2.2.2.1
theorem IOT.f {s s' : cps} {w : Nat} {kd p : Int32} (q : IOT s s' w kd p) : ∀ j, j < 5 ∨ j = 10 ∨ j = 12 → s'.2 (24 + s.1 8) j = stF s kd p j := q.2.2.2.2.2.2.2.2.2
/-- behind the COND's bracket -/
def HDD (s s3 : cps) (lo : lkt) (w i j dp g c1 : Nat) (c : tr) : Prop := (TOP s3 (w + 1) 147 0) ∧ (s3.2 23 w = glI (Int32.ofNat g) (Int32.ofNat 0)) ∧ (s3.1 8 = s.1 8 + 1) ∧ (s3.1 4 ≤ s.1 4 + (j - i) ∧ s3.1 5 ≤ s.1 5 + (j - i) ∧ s3.1 6 ≤ s.1 6 + (j - i) ∧ s3.1 7 ≤ s.1 7 + (j - i)) ∧ ((s3.2 (24 + s.1 8) 5, s3.2 (24 + s.1 8) 6) = wn (0, 0) (lwT lo c)) ∧ (s3.2 (24 + s.1 8) 13 = Int32.ofNat c1) ∧ (c1 ≤ s3.1 7) ∧ (cy (s3.2 12) (s3.2 13) (rlx lo s3) c false false (s.1 7) c1)
theorem HDD.of {s s3 : cps} {lo : lkt} {w i j dp g c1 : Nat} {c : tr} (q : (TOP s3 (w + 1) 147 0) ∧ (s3.2 23 w = glI (Int32.ofNat g) (Int32.ofNat 0)) ∧ (s3.1 8 = s.1 8 + 1) ∧ (s3.1 4 ≤ s.1 4 + (j - i) ∧ s3.1 5 ≤ s.1 5 + (j - i) ∧ s3.1 6 ≤ s.1 6 + (j - i) ∧ s3.1 7 ≤ s.1 7 + (j - i)) ∧ ((s3.2 (24 + s.1 8) 5, s3.2 (24 + s.1 8) 6) = wn (0, 0) (lwT lo c)) ∧ (s3.2 (24 + s.1 8) 13 = Int32.ofNat c1) ∧ (c1 ≤ s3.1 7) ∧ (cy (s3.2 12) (s3.2 13) (rlx lo s3) c false false (s.1 7) c1)) : HDD s s3 lo w i j dp g c1 c := q
theorem HDD.T {s s3 : cps} {lo : lkt} {w i j dp g c1 : Nat} {c : tr} (q : HDD s s3 lo w i j dp g c1 c) : TOP s3 (w + 1) 147 0 := q.1
theorem HDD.g {s s3 : cps} {lo : lkt} {w i j dp g c1 : Nat} {c : tr} (q : HDD s s3 lo w i j dp g c1 c) : s3.2 23 w = glI (Int32.ofNat g) (Int32.ofNat 0) := q.2.1
theorem HDD.n {s s3 : cps} {lo : lkt} {w i j dp g c1 : Nat} {c : tr} (q : HDD s s3 lo w i j dp g c1 c) : s3.1 8 = s.1 8 + 1 := q.2.2.1
theorem HDD.c {s s3 : cps} {lo : lkt} {w i j dp g c1 : Nat} {c : tr} (q : HDD s s3 lo w i j dp g c1 c) : s3.1 4 ≤ s.1 4 + (j - i) ∧ s3.1 5 ≤ s.1 5 + (j - i) ∧ s3.1 6 ≤ s.1 6 + (j - i) ∧ s3.1 7 ≤ s.1 7 + (j - i) := q.2.2.2.1
theorem HDD.x {s s3 : cps} {lo : lkt} {w i j dp g c1 : Nat} {c : tr} (q : HDD s s3 lo w i j dp g c1 c) : (s3.2 (24 + s.1 8) 5, s3.2 (24 + s.1 8) 6) = wn (0, 0) (lwT lo c) := q.2.2.2.2.1
theorem HDD.y {s s3 : cps} {lo : lkt} {w i j dp g c1 : Nat} {c : tr} (q : HDD s s3 lo w i j dp g c1 c) : s3.2 (24 + s.1 8) 13 = Int32.ofNat c1 := q.2.2.2.2.2.1
theorem HDD.z {s s3 : cps} {lo : lkt} {w i j dp g c1 : Nat} {c : tr} (q : HDD s s3 lo w i j dp g c1 c) : c1 ≤ s3.1 7 := q.2.2.2.2.2.2.1
theorem HDD.w {s s3 : cps} {lo : lkt} {w i j dp g c1 : Nat} {c : tr} (q : HDD s s3 lo w i j dp g c1 c) : cy (s3.2 12) (s3.2 13) (rlx lo s3) c false false (s.1 7) c1 := q.2.2.2.2.2.2.2
def RHa (d : Nat) (h : mh_H) (B n m : Nat) (sp : Nat → Nat → Bool) (K : Nat → Int32) (P : Nat → Nat) (kd : Int32) (g : Nat) (s : cps) (w : Nat) (L : cen) (i dp : Nat) (r : pqr) : Prop := match r with
  | (j, none) => RTn d h B n P s i j 9
  | (j, some c) => (¬ K j = 41 → RTn d h B n P s i j 9) ∧ (K j = 41 → ∃ k s3 c1, PL d h B k s s3 ∧ k ≤ 24 * (j + 1 - i) ∧ IOT s s3 w kd (Int32.ofNat (P i)) ∧ CHb n m s3 L (j + 1) dp ∧ HDD s s3 (loE sp L) w i j dp g c1 c)
section IOz
variable {d : Nat} {h : mh_H} {B n m : Nat} {Bt : Nat → Int32} {K : Nat → Int32} {P U : Nat → Nat} {V : Nat → Int} {s s1 s2 s' : cps} {L : cen} {lo : lkt} {w w0 b i dp N f c v j g : Nat} {kd p x y : Int32}
theorem IOT_bg : IOT s (u1 (u2 (bgS (u1 s 0 w) kd p) 17 (s.1 3) (Int32.ofNat (s.1 8))) 3 (s.1 3 + 1)) w kd p := by
  obtain ⟨sm, hsm⟩ : ∃ sm, sm = u1 (u2 (bgS (u1 s 0 w) kd p) 17 (s.1 3) (Int32.ofNat (s.1 8))) 3 (s.1 3 + 1) := ⟨_, rfl⟩
  rw [← hsm]
  have r : ∀ z k, z ≠ 24 + s.1 8 → ¬ (z = 17 ∧ k = s.1 3) → sm.2 z k = s.2 z k := fun z k h1 h2 => by
    rw [hsm, u1_2, u2_2, if_neg h2]
    exact bg_2 (s := u1 s 0 w) h1
  have c4 : sm.1 4 = s.1 4 := by rw [hsm]; rfl
  have c5 : sm.1 5 = s.1 5 := by rw [hsm]; rfl
  have c6 : sm.1 6 = s.1 6 := by rw [hsm]; rfl
  have c7 : sm.1 7 = s.1 7 := by rw [hsm]; rfl
  have c8 : sm.1 8 = s.1 8 + 1 := by rw [hsm]; rfl
  exact IOT.of ⟨⟨⟨by omega, by omega, by omega, by omega⟩, fun k _ => r _ _ (by omega) (by omega), fun z k _ _ _ => r _ _ (by omega) (by omega), fun z k _ _ => r _ _ (by omega) (by omega), fun hh => absurd hh (by omega), fun _ => ⟨c4, c5⟩, fun z k _ _ => r _ _ (by omega) (by omega)⟩, fun c hc => by
    rcases hc with hc | hc
    · subst hc; rw [hsm]; rfl
    · subst hc; rw [hsm]; rfl, by rw [hsm]; rfl, by omega, fun _ _ => r _ _ (by omega) (by omega), fun z k hz => r _ _ (by omega) (by omega), by rw [hsm, u1_2, u2_2, if_pos ⟨rfl, rfl⟩], fun k => r _ _ (by omega) (by omega), fun k l hk => r _ _ (by omega) (by omega), fun k _ => by
    rw [hsm, u1_2, u2_2, if_neg (by omega)]
    exact (show (bgS (u1 s 0 w) kd p).2 (24 + s.1 8) k = stF (u1 s 0 w) kd p k from if_pos rfl)⟩
theorem IOT_G (I : IOT s s1 w kd p) (h8 : s1.1 8 = s.1 8 + 1) (G : CGx s1 s2 w (s1.1 7)) : IOT s s2 w kd p := by
  have a9 := I.a 9 (by omega)
  have a11 := I.a 11 (by omega)
  have h7 := I.R.m.2.2.2
  have g8 := CGx_8 G
  exact IOT.of ⟨CRx_t I.R (CRx_w (CGx_R G) h7), fun c hc => (G.a c (by omega)).trans (I.a c hc), (G.a 3 (by omega)).trans I.b, by omega, fun j hj => (G.g j hj).trans (I.g j hj), fun o j hh => (G.r o j (by omega) (by omega) (by omega) (by omega)).trans (I.o o j hh), (G.r 17 _ (by decide) (by omega) (by decide) (by omega)).trans I.t, fun j => (G.r 15 _ (by decide) (by omega) (by decide) (by omega)).trans (I.h j), fun k j hk => (G.u _ j (by omega) (by omega)).trans (I.u k j hk), fun j hj => (G.u _ j (by omega) (by omega)).trans (I.f j hj)⟩
theorem IOT_S (I : IOT s s1 w kd p) (F : CSx s1 s2 w) (h15 : s2.2 15 (6 * s.1 9 + 5) = s1.2 15 (6 * s.1 9 + 5)) : IOT s s2 w kd p := by
  have a9 := I.a 9 (by omega)
  have a11 := I.a 11 (by omega)
  have b3 := I.b
  have hm := I.m
  have h7 := I.R.m.2.2.2
  have fm := F.m
  exact IOT.of ⟨CRx_t I.R (CRx_w F.R h7), fun c hc => (F.a c (by omega)).trans (I.a c hc), (F.a 3 (by omega)).trans b3, by omega, fun j hj => (F.g j hj).trans (I.g j hj), fun o j hh => (F.o o j (by omega)).trans (I.o o j hh), (F.o 17 _ (by omega)).trans I.t, fun j => by
    by_cases c : j = 6 * s.1 9 + 5
    · subst c
      exact h15.trans (I.h _)
    · exact (F.h j (by rw [a9]; exact c)).trans (I.h j), fun k j hk => (F.u k j (by omega)).trans (I.u k j hk), fun j hj => (F.u _ j (by omega)).trans (I.f j hj)⟩
theorem IOT_x (I : IOT s s1 w kd p) (hj : 5 ≤ j ∧ j ≠ 10 ∧ j ≠ 12) : IOT s (u2 s1 (24 + s.1 8) j x) w kd p := by
  have e : ∀ o k, ¬ (o = 24 + s.1 8 ∧ k = j) → (u2 s1 (24 + s.1 8) j x).2 o k = s1.2 o k := fun o k ho => by rw [u2_2, if_neg ho]
  have hR := I.R
  exact IOT.of ⟨⟨hR.m, fun k hk => (e _ _ (by omega)).trans (hR.c k hk), fun o k h1 h2 h3 => (e _ _ (by omega)).trans (hR.e o k h1 h2 h3), fun o k h1 h2 => (e _ _ (by omega)).trans (hR.t o k h1 h2), fun h => ⟨(e _ _ (by omega)).trans (hR.n h).1, (e _ _ (by omega)).trans (hR.n h).2⟩, hR.z, fun o k h1 h2 => (e _ _ (by omega)).trans (hR.k o k h1 h2)⟩, I.a, I.b, I.m, fun k hk => (e _ _ (by omega)).trans (I.g k hk), fun o k hh => (e _ _ (by omega)).trans (I.o o k hh), (e _ _ (by omega)).trans I.t, fun k => (e _ _ (by omega)).trans (I.h k), fun k l hk => (e _ _ (by omega)).trans (I.u k l hk), fun k hk => (e _ _ (by omega)).trans (I.f k hk)⟩
/-- the bracket behind it closed: BLOCKS_DONE -/
theorem IOT_z (I : IOT s s1 w kd p) : CSx s (u1 s1 3 (s1.1 3 - 1)) w := by
  have b3 := I.b
  have hm := I.m
  have hR := I.R
  exact CSx.of ⟨⟨hR.m, hR.c, hR.e, hR.t, hR.n, hR.z, hR.k⟩, fun c hc => by
    rcases hc with hc | hc | hc
    · subst hc
      show s1.1 3 - 1 = s.1 3
      omega
    · subst hc
      exact I.a 9 (by omega)
    · subst hc
      exact I.a 11 (by omega), by show s.1 8 ≤ s1.1 8; omega, I.g, I.o, fun j _ => I.h j, I.u⟩
theorem z_hd (bb : CPB h B n) (t : CTK h B n m Bt K P U V) (hN8 : 8 * m + 6 ≤ N) (H : CHt n m s L b i dp) (T : TOP s w 149 0) (hw : w ≤ 12 * dp) {qk : Int32} (q : K i = qk) (qk0 : qk ≠ 0) (qk1 : qk ≠ 1) (hg : g < 256) (z : i + 1 < m → ∀ Q, mcall (d + 9) 58 [.ref (B + 16)] (cH h B (u1 s 0 w)) Q = Q none (cH h B (bbS K P (u1 s 0 w) kd (Int32.ofNat (P i)) (Int32.ofNat g)))) : (¬ K (i + 1) = 40 → RTn (d + 10) h B n P s i (i + 1) 9) ∧ (K (i + 1) = 40 → RHa (d + 10) h B n m (spe Bt n P U) K P kd g s w L i dp (pgC K P V N N 0 (dp + 1) (i + 2))) := by
  have hb := H.j
  have hm := t.m
  have hn := bb.n
  obtain ⟨e1, e2, e3⟩ := H.e
  obtain ⟨l1, l2⟩ := H.l
  obtain ⟨B1, B2⟩ := H.B
  obtain ⟨c4, c5, c6, c7⟩ := H.c
  have hN3 := H.N
  have ho := H.o
  have gw : w < gL n := gL_w t hb e3 e2 (by omega)
  have hi1 : i + 1 < m := tkM_s t.M hb q qk0 qk1
  have e : (u1 s 0 w).1 1 = i := H.i
  have p1 := it_58 bb T gw (z hi1)
  have I0 : IOT s (u1 (u2 (bgS (u1 s 0 w) kd (Int32.ofNat (P i))) 17 (s.1 3) (Int32.ofNat (s.1 8))) 3 (s.1 3 + 1)) w kd (Int32.ofNat (P i)) := IOT_bg
  have G := BGN_bg (kd := kd) (p := Int32.ofNat (P i)) H T
  have E0 : SCE (u1 (u2 (bgS (u1 s 0 w) kd (Int32.ofNat (P i))) 17 (s.1 3) (Int32.ofNat (s.1 8))) 3 (s.1 3 + 1)) m L := SCE_g (SCE_2 (o := 17) (j := s.1 3) (x := Int32.ofNat (s.1 8)) G.E (by omega)) rfl rfl rfl (fun o k h1 h2 h3 => rfl)
  have X0 : wSt (u1 (u2 (bgS (u1 s 0 w) kd (Int32.ofNat (P i))) 17 (s.1 3) (Int32.ofNat (s.1 8))) 3 (s.1 3 + 1)) = (0, 0) := by
    rw [wSt_1 (by decide)]
    exact (wSt_2 (by decide) (by have := G.I.n; omega)).trans G.x
  have f0 : (u1 (u2 (bgS (u1 s 0 w) kd (Int32.ofNat (P i))) 17 (s.1 3) (Int32.ofNat (s.1 8))) 3 (s.1 3 + 1)).2 16 7 = -1 := by
    rw [u1_2, u2_2, if_neg (by omega)]
    exact G.f
  have y1 : ∀ c, c ≠ 0 → c ≠ 3 → c ≠ 8 → (u1 (u2 (bgS (u1 s 0 w) kd (Int32.ofNat (P i))) 17 (s.1 3) (Int32.ofNat (s.1 8))) 3 (s.1 3 + 1)).1 c = s.1 c := fun c h0 h3 h8 => by
    rw [u1_1, if_neg h3, u2_1, bg_1 h8, u1_1, if_neg h0]
  have y0 : (u1 (u2 (bgS (u1 s 0 w) kd (Int32.ofNat (P i))) 17 (s.1 3) (Int32.ofNat (s.1 8))) 3 (s.1 3 + 1)).1 0 = w := rfl
  have y8 : (u1 (u2 (bgS (u1 s 0 w) kd (Int32.ofNat (P i))) 17 (s.1 3) (Int32.ofNat (s.1 8))) 3 (s.1 3 + 1)).1 8 = s.1 8 + 1 := rfl
  have pe : bbS K P (u1 s 0 w) kd (Int32.ofNat (P i)) (Int32.ofNat g) = tkS K P (asS (asS (asS (asS (asS (u1 (u1 (u2 (bgS (u1 s 0 w) kd (Int32.ofNat (P i))) 17 (s.1 3) (Int32.ofNat (s.1 8))) 3 (s.1 3 + 1)) 1 ((u1 s 0 w).1 1 + 1)) (Int32.ofNat g) 0) 147 0) 41 0) 157 0) 171 0) 40 := rfl
  rw [pe, e] at p1
  clear pe G z
  generalize u1 (u2 (bgS (u1 s 0 w) kd (Int32.ofNat (P i))) 17 (s.1 3) (Int32.ofNat (s.1 8))) 3 (s.1 3 + 1) = sb at p1 I0 E0 X0 f0 y1 y0 y8
  have hNb : 0 < sb.1 8 := by omega
  have b2 := y1 2 (by decide) (by decide) (by decide)
  have b4 := y1 4 (by decide) (by decide) (by decide)
  have b5 := y1 5 (by decide) (by decide) (by decide)
  have b6 := y1 6 (by decide) (by decide) (by decide)
  have b7 := y1 7 (by decide) (by decide) (by decide)
  obtain ⟨sc, hsc⟩ : ∃ sc, sc = asS (asS (asS (asS (asS (u1 sb 1 (i + 1)) (Int32.ofNat g) 0) 147 0) 41 0) 157 0) 171 0 := ⟨_, rfl⟩
  rw [← hsc] at p1
  have Gc : CGx sb sc w (sb.1 7) := by
    rw [hsc]
    exact CGx_as' (CGx_as' (CGx_as' (CGx_as' (CGx_as' (CGx_1 (Or.inr (Or.inl rfl)) (Nat.le_refl _)) (by show w ≤ sb.1 0; omega)) (by show w ≤ sb.1 0 + 1; omega)) (by show w ≤ sb.1 0 + 1 + 1; omega)) (by show w ≤ sb.1 0 + 1 + 1 + 1; omega)) (by show w ≤ sb.1 0 + 1 + 1 + 1 + 1; omega)
  have a0 : sc.1 0 = w + 5 := by rw [hsc]; show sb.1 0 + 1 + 1 + 1 + 1 + 1 = _; omega
  have a1 : sc.1 1 = i + 1 := by rw [hsc]; rfl
  have a2 : sc.1 2 = dp := by rw [hsc]; exact b2.trans H.d
  have a4 : sc.1 4 = s.1 4 := by rw [hsc]; exact b4
  have a5 : sc.1 5 = s.1 5 := by rw [hsc]; exact b5
  have a6 : sc.1 6 = s.1 6 := by rw [hsc]; exact b6
  have a7 : sc.1 7 = s.1 7 := by rw [hsc]; exact b7
  have a8 : sc.1 8 = s.1 8 + 1 := by rw [hsc]; exact y8
  have af : sc.2 16 7 = -1 := by rw [hsc]; exact f0
  have ax : wSt sc = (0, 0) := by
    rw [hsc]
    repeat (first | refine (wSt_as (by exact hNb)).trans ?_ | refine (wSt_em (by exact hNb)).trans ?_ | refine (wSt_pt (by exact hNb)).trans ?_ | refine (wSt_1 (by decide)).trans ?_)
    exact X0
  have g4 : sc.2 23 (w + 4) = glI (Int32.ofNat 171) (Int32.ofNat 0) := by
    rw [hsc, as_23, if_pos (by show w + 4 = sb.1 0 + 1 + 1 + 1 + 1; omega)]
    rfl
  have g3 : sc.2 23 (w + 3) = glI (Int32.ofNat 157) (Int32.ofNat 0) := by
    rw [hsc, as_23, if_neg (by show ¬ w + 3 = sb.1 0 + 1 + 1 + 1 + 1; omega), as_23, if_pos (by show w + 3 = sb.1 0 + 1 + 1 + 1; omega)]
    rfl
  have g2 : sc.2 23 (w + 2) = glI (Int32.ofNat 41) (Int32.ofNat 0) := by
    rw [hsc, as_23, if_neg (by show ¬ w + 2 = sb.1 0 + 1 + 1 + 1 + 1; omega), as_23, if_neg (by show ¬ w + 2 = sb.1 0 + 1 + 1 + 1; omega), as_23, if_pos (by show w + 2 = sb.1 0 + 1 + 1; omega)]
    rfl
  have g1 : sc.2 23 (w + 1) = glI (Int32.ofNat 147) (Int32.ofNat 0) := by
    rw [hsc, as_23, if_neg (by show ¬ w + 1 = sb.1 0 + 1 + 1 + 1 + 1; omega), as_23, if_neg (by show ¬ w + 1 = sb.1 0 + 1 + 1 + 1; omega), as_23, if_neg (by show ¬ w + 1 = sb.1 0 + 1 + 1; omega), as_23, if_pos (by show w + 1 = sb.1 0 + 1; omega)]
    rfl
  have g0 : sc.2 23 w = glI (Int32.ofNat g) (Int32.ofNat 0) := by
    rw [hsc, as_23, if_neg (by show ¬ w = sb.1 0 + 1 + 1 + 1 + 1; omega), as_23, if_neg (by show ¬ w = sb.1 0 + 1 + 1 + 1; omega), as_23, if_neg (by show ¬ w = sb.1 0 + 1 + 1; omega), as_23, if_neg (by show ¬ w = sb.1 0 + 1; omega), as_23, if_pos (by show w = sb.1 0; omega)]
    rfl
  clear hsc
  have Ic := IOT_G I0 y8 Gc
  have cva : ∀ S : cps, IOT s S w kd (Int32.ofNat (P i)) → S.1 8 ≤ n / 3 + 2 → CVx s S n := fun S I h => CVx.of ⟨I.a 9 (by omega), fun y _ => I.h y, ⟨by have := I.m; omega, h⟩⟩
  have cvw : ∀ S S' : cps, IOT s S w kd (Int32.ofNat (P i)) → S.1 8 ≤ n / 3 + 2 → CWx S S' → CVx s S' n := fun S S' I h W => CVx.of ⟨(W.a 9 (by decide)).trans (I.a 9 (by omega)), fun y _ => (W.r 15 y (by decide) (by omega) (by decide) (by decide)).trans (I.h y), ⟨by have := I.m; have := W.a 8 (by decide); omega, by have := W.a 8 (by decide); omega⟩⟩
  refine ⟨fun c40 => ?_, fun c40 => ?_⟩
  · rw [tkS_n af (by rw [a1]; exact c40), a1] at p1
    exact ⟨1, _, p1, cvw sc _ Ic (by omega) CWx_f, by omega, rfl, by show sc.1 6 ≤ _; omega⟩
  have hi2 : i + 2 < m := tkM_s t.M hi1 c40 (by decide) (by decide)
  rw [tkS_p af (by rw [a1]; exact c40), a1] at p1
  obtain ⟨s1, hs1⟩ : ∃ s1, s1 = u1 sc 1 (i + 1 + 1) := ⟨_, rfl⟩
  rw [← hs1] at p1
  have G1 : CGx sc s1 w (sc.1 7) := by rw [hs1]; exact CGx_1 (Or.inr (Or.inl rfl)) (Nat.le_refl _)
  have r1 : ∀ c, c ≠ 1 → s1.1 c = sc.1 c := fun c hc => by rw [hs1]; exact if_neg hc
  have r2 : s1.2 = sc.2 := by rw [hs1]; rfl
  have x1 : s1.1 1 = i + 2 := by rw [hs1]; rfl
  have ax1 : wSt s1 = (0, 0) := by rw [hs1, wSt_1 (by decide)]; exact ax
  clear hs1
  have z0 := r1 0 (by decide)
  have z2 := r1 2 (by decide)
  have z4 := r1 4 (by decide)
  have z5 := r1 5 (by decide)
  have z6 := r1 6 (by decide)
  have z7 := r1 7 (by decide)
  have z8 := r1 8 (by decide)
  have I1 := IOT_G Ic a8 G1
  have E1 := SCE_G (SCE_G E0 Gc) G1
  have C1 := CHc_of (dp := dp) bb t E1 (i := i + 2) (by omega) (by omega) x1 hi2 (by omega) (by omega) (by omega) (by omega) (by omega)
  have R := t_cd (d := d) (w := w + 2) (N := N) bb t (by omega) C1 (TOP.of ⟨by omega, by rw [r2]; exact af, by rw [r2]; exact g4, ⟨by decide, by decide⟩⟩) (by rw [r2]; exact g3) (by rw [r2]; exact g2) (by omega) e2 (by omega)
  have gd := (pgC_b (P := P) (V := V) (N := N) t.M N 0 (dp + 1) (i + 2) (by decide) hi2).1
  generalize pgC K P V N N 0 (dp + 1) (i + 2) = q1 at R gd ⊢
  have far : ∀ j kf, RCn (d + 10) h B P s1 (i + 2) j kf → kf ≤ 9 → i + 2 ≤ j → RTn (d + 10) h B n P s i j 9 := fun j kf R hk hj => by
    obtain ⟨k1, s2, p2, F2, b2, f2, f3⟩ := R
    exact ⟨1 + k1, s2, PL_t p1 p2, cvw s1 s2 I1 (by omega) F2, by omega, f2, f3⟩
  rcases q1 with ⟨j, _ | tt⟩
  · exact far j 8 R (by omega) gd.1
  have gj : i + 2 ≤ j := gd.1
  have gm' : j < m := gd.2.1
  obtain ⟨R1, R2⟩ := R
  refine ⟨fun c41 => far j 8 (R1 c41) (by omega) gj, fun c41 => ?_⟩
  have hj1 : j + 1 < m := tkM_s t.M gm' c41 (by decide) (by decide)
  obtain ⟨k1, s2, s3, p2, F2, hs3, b2', O3, d4, d5, d6, d7, y13, ycy⟩ := R2 c41
  have n2 := CGx_8 F2
  have F2' : CGx s1 s2 w (s1.1 7) := CGx_w F2 (by omega) (Nat.le_refl _)
  have I2 := IOT_G I1 (by omega) F2'
  have e28 : s2.1 8 = s.1 8 + 1 := by omega
  have I3 : IOT s s3 w kd (Int32.ofNat (P i)) := by
    rw [hs3]
    unfold kdS
    have J := IOT_x (j := 13) (x := Int32.ofNat (s2.1 7)) (IOT_G (s2 := u1 s2 0 (w + 2 + 1)) I2 e28 (CGx_1 (Or.inl rfl) (Nat.le_refl _))) (by decide)
    have e24 : 23 + s2.1 8 = 24 + s.1 8 := by omega
    rw [e24]
    exact IOT_G (IOT_G J e28 (CGx_1 (c := 0) (v := w + 2) (Or.inl rfl) (Nat.le_refl _))) e28 (CGx_1 (Or.inr (Or.inl rfl)) (Nat.le_refl _))
  have E3 : SCE s3 m L := by rw [hs3]; exact SCE_K (SCE_G E1 F2)
  have rr : ∀ z k, z < 24 → s3.2 z k = s2.2 z k := fun z k hz => by rw [hs3]; exact kd_2 hz (by omega)
  have n3 : s3.1 8 = s2.1 8 := by rw [hs3]; rfl
  clear hs3
  have g23w : s3.2 23 w = glI (Int32.ofNat g) (Int32.ofNat 0) := by rw [rr 23 _ (by decide), F2.g w (by omega), r2]; exact g0
  have g23 : s3.2 23 (w + 1) = glI (Int32.ofNat 147) (Int32.ofNat 0) := by rw [rr 23 _ (by decide), F2.g (w + 1) (by omega), r2]; exact g1
  have o0 := O3.w
  have i3b := I3.b
  have i9 := I3.a 9 (by omega)
  have i11 := I3.a 11 (by omega)
  have e178 : s1.1 7 = s.1 7 := by omega
  have e188 : 23 + s1.1 8 = 24 + s.1 8 := by omega
  rw [e188] at y13
  rw [e178] at ycy
  refine ⟨1 + k1, s3, s3.1 7, PL_t p1 p2, by omega, I3, CHb.of ⟨O3.j, hj1, O3.d, ⟨e1, e2, by omega⟩, E3, by omega, by omega, ⟨by omega, by omega, by omega, by omega⟩, by omega, by omega, by rw [i9]; exact H.F, fun y hy => by
    have := H.H y (by omega)
    unfold nmH at this ⊢
    rw [I3.h]
    exact this⟩, HDD.of ⟨TOP.of ⟨by omega, O3.f, g23, ⟨by decide, by decide⟩⟩, g23w, by omega, ⟨by omega, by omega, by omega, by omega⟩, ?_, y13, Nat.le_refl _, ycy⟩⟩
  have x3 := O3.x
  rw [ax1] at x3
  rw [← x3]
  unfold wSt
  rw [n3, e28, show 23 + (s.1 8 + 1) = 24 + s.1 8 from by omega]
end IOz
