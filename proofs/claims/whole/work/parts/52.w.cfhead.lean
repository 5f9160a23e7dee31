set_option maxRecDepth 100000
/-! the class's parser over functions: a function's head -/
def FQx (s s' : cps) (w : Nat) : Prop := (∀ c, 3 ≤ c → c ≤ 9 → s'.1 c = s.1 c) ∧ (∀ z k, ¬ (z = 15 ∧ 6 * s.1 9 ≤ k) → ¬ (19 ≤ z ∧ z ≤ 22) → ¬ (z = 23 ∧ w ≤ k) → ¬ (z = 16 ∧ k = 7) → s'.2 z k = s.2 z k)
theorem FQx.of {s s' : cps} {w : Nat} (q : (∀ c, 3 ≤ c → c ≤ 9 → s'.1 c = s.1 c) ∧ (∀ z k, ¬ (z = 15 ∧ 6 * s.1 9 ≤ k) → ¬ (19 ≤ z ∧ z ≤ 22) → ¬ (z = 23 ∧ w ≤ k) → ¬ (z = 16 ∧ k = 7) → s'.2 z k = s.2 z k)) : FQx s s' w := q
theorem FQx.a {s s' : cps} {w : Nat} (q : FQx s s' w) : ∀ c, 3 ≤ c → c ≤ 9 → s'.1 c = s.1 c := q.1
theorem FQx.r {s s' : cps} {w : Nat} (q : FQx s s' w) : ∀ z k, ¬ (z = 15 ∧ 6 * s.1 9 ≤ k) → ¬ (19 ≤ z ∧ z ≤ 22) → ¬ (z = 23 ∧ w ≤ k) → ¬ (z = 16 ∧ k = 7) → s'.2 z k = s.2 z k := q.2
def CFn (s s' : cps) (w : Nat) : Prop := (CRx s s' (s.1 7)) ∧ (s.1 8 ≤ s'.1 8) ∧ (∀ j, j < w → s'.2 23 j = s.2 23 j) ∧ (∀ j, j < 6 * s.1 9 → s'.2 15 j = s.2 15 j) ∧ (∀ k j, k < s.1 8 → s'.2 (24 + k) j = s.2 (24 + k) j)
theorem CFn.of {s s' : cps} {w : Nat} (q : (CRx s s' (s.1 7)) ∧ (s.1 8 ≤ s'.1 8) ∧ (∀ j, j < w → s'.2 23 j = s.2 23 j) ∧ (∀ j, j < 6 * s.1 9 → s'.2 15 j = s.2 15 j) ∧ (∀ k j, k < s.1 8 → s'.2 (24 + k) j = s.2 (24 + k) j)) : CFn s s' w := q
theorem CFn.R {s s' : cps} {w : Nat} (q : CFn s s' w) : CRx s s' (s.1 7) := q.1
theorem CFn.m {s s' : cps} {w : Nat} (q : CFn s s' w) : s.1 8 ≤ s'.1 8 := q.2.1
theorem CFn.g {s s' : cps} {w : Nat} (q : CFn s s' w) : ∀ j, j < w → s'.2 23 j = s.2 23 j := q.2.2.1
theorem CFn.h {s s' : cps} {w : Nat} (q : CFn s s' w) : ∀ j, j < 6 * s.1 9 → s'.2 15 j = s.2 15 j := q.2.2.2.1
theorem CFn.u {s s' : cps} {w : Nat} (q : CFn s s' w) : ∀ k j, k < s.1 8 → s'.2 (24 + k) j = s.2 (24 + k) j := q.2.2.2.2
/-- what stands between two functions -/
def FNH (P : Nat → Nat) (m : Nat) (s : cps) (i : Nat) : Prop := (s.1 1 = i) ∧ (i < m) ∧ (s.1 2 = 0) ∧ (s.1 3 = 0) ∧ (SCE s m []) ∧ (s.1 11 = 0) ∧ (s.1 4 ≤ i ∧ s.1 5 ≤ i ∧ s.1 6 ≤ i ∧ s.1 7 ≤ i) ∧ (3 * s.1 8 ≤ i) ∧ (9 * s.1 9 ≤ P i) ∧ (∀ f, f < s.1 9 → nmH s f < m ∧ s.2 15 (6 * f) = Int32.ofNat (nmH s f))
theorem FNH.of {P : Nat → Nat} {m : Nat} {s : cps} {i : Nat} (q : (s.1 1 = i) ∧ (i < m) ∧ (s.1 2 = 0) ∧ (s.1 3 = 0) ∧ (SCE s m []) ∧ (s.1 11 = 0) ∧ (s.1 4 ≤ i ∧ s.1 5 ≤ i ∧ s.1 6 ≤ i ∧ s.1 7 ≤ i) ∧ (3 * s.1 8 ≤ i) ∧ (9 * s.1 9 ≤ P i) ∧ (∀ f, f < s.1 9 → nmH s f < m ∧ s.2 15 (6 * f) = Int32.ofNat (nmH s f))) : FNH P m s i := q
theorem FNH.i {P : Nat → Nat} {m : Nat} {s : cps} {i : Nat} (q : FNH P m s i) : s.1 1 = i := q.1
theorem FNH.j {P : Nat → Nat} {m : Nat} {s : cps} {i : Nat} (q : FNH P m s i) : i < m := q.2.1
theorem FNH.d {P : Nat → Nat} {m : Nat} {s : cps} {i : Nat} (q : FNH P m s i) : s.1 2 = 0 := q.2.2.1
theorem FNH.o {P : Nat → Nat} {m : Nat} {s : cps} {i : Nat} (q : FNH P m s i) : s.1 3 = 0 := q.2.2.2.1
theorem FNH.E {P : Nat → Nat} {m : Nat} {s : cps} {i : Nat} (q : FNH P m s i) : SCE s m [] := q.2.2.2.2.1
theorem FNH.B {P : Nat → Nat} {m : Nat} {s : cps} {i : Nat} (q : FNH P m s i) : s.1 11 = 0 := q.2.2.2.2.2.1
theorem FNH.c {P : Nat → Nat} {m : Nat} {s : cps} {i : Nat} (q : FNH P m s i) : s.1 4 ≤ i ∧ s.1 5 ≤ i ∧ s.1 6 ≤ i ∧ s.1 7 ≤ i := q.2.2.2.2.2.2.1
theorem FNH.N {P : Nat → Nat} {m : Nat} {s : cps} {i : Nat} (q : FNH P m s i) : 3 * s.1 8 ≤ i := q.2.2.2.2.2.2.2.1
theorem FNH.F {P : Nat → Nat} {m : Nat} {s : cps} {i : Nat} (q : FNH P m s i) : 9 * s.1 9 ≤ P i := q.2.2.2.2.2.2.2.2.1
theorem FNH.H {P : Nat → Nat} {m : Nat} {s : cps} {i : Nat} (q : FNH P m s i) : ∀ f, f < s.1 9 → nmH s f < m ∧ s.2 15 (6 * f) = Int32.ofNat (nmH s f) := q.2.2.2.2.2.2.2.2.2
/-- a row of parameters -/
def pmW : tr → Prop
  | .leaf _ => True
  | .branch a cs r => tK a = 13 ∧ cs = .leaf () ∧ pmW r
/-- a function stands in the heads and the statements -/
def fnN (sp : Nat → Nat → Bool) (s : cps) (f g : Nat) (cs : tr) (k k' : Nat) : Prop := ∃ a r b0 bs, cs = .branch a (.leaf ()) (tC r (tNd b0 bs)) ∧ (tK a = 13 ∧ pmW r ∧ tK b0 = 2) ∧ s.2 15 (6 * g) = Int32.ofNat (tV a).toNat ∧ s.2 15 (6 * g + 1) = Int32.ofNat (prL r []).length ∧ s.2 15 (6 * g + 2) = rpT sp (prL r []) ∧ s.2 15 (6 * g + 3) = Int32.ofNat k ∧ s.2 15 (6 * g + 4) = Int32.ofNat k' ∧ s.2 15 (6 * g + 5) = (if gvT bs = true then Int32.ofNat (k' - 1) else -1) ∧ stR sp s g f true bs k k' (prL r []) (prL r []).length
section FAz
variable {d : Nat} {h : mh_H} {B n m : Nat} {Bt : Nat → Int32} {K : Nat → Int32} {P U : Nat → Nat} {V : Nat → Int} {s s1 s2 s' : cps} {L : cen} {w b i dp N f j g : Nat} {x y : Int32}
theorem FQx_t (F : FQx s s1 w) (G : FQx s1 s2 w) : FQx s s2 w := by
  have a9 := F.a 9 (by decide) (by decide)
  exact FQx.of ⟨fun c h0 h1 => (G.a c h0 h1).trans (F.a c h0 h1), fun z k h1 h2 h3 h4 => (G.r z k (by rw [a9]; exact h1) h2 h3 h4).trans (F.r z k h1 h2 h3 h4)⟩
theorem FQx_w {w0 : Nat} (F : FQx s s1 w) (hw : w0 ≤ w) : FQx s s1 w0 := FQx.of ⟨F.a, fun z k h1 h2 h3 h4 => F.r z k h1 h2 (by omega) h4⟩
theorem PFx_Q (F : PFx s s1 w) : FQx s s1 w := FQx.of ⟨fun c h0 h1 => F.a c (by omega) (by omega) (by omega) (by omega), fun z k h1 h2 h3 h4 => F.r z k (by omega) (by omega) h3 h4⟩
theorem FQx_V (F : FQx s s1 w) (G : CVx s1 s2 n) : CVx s s2 n := by
  have a8 := F.a 8 (by decide) (by decide)
  have a9 := F.a 9 (by decide) (by decide)
  obtain ⟨m1, m2⟩ := G.m
  exact CVx.of ⟨G.a.trans a9, fun y hy => (G.h y (by omega)).trans (F.r 15 y (by omega) (by omega) (by omega) (by omega)), ⟨by omega, m2⟩⟩
theorem CVx_id (h8 : s.1 8 ≤ n / 3 + 2) : CVx s s n := CVx.of ⟨rfl, fun _ _ => rfl, ⟨Nat.le_refl _, h8⟩⟩
theorem FQx_R (F : FQx s s1 w) : CRx s s1 (s.1 7) := by
  have a4 := F.a 4 (by decide) (by decide)
  have a5 := F.a 5 (by decide) (by decide)
  have a6 := F.a 6 (by decide) (by decide)
  have a7 := F.a 7 (by decide) (by decide)
  exact ⟨⟨by omega, by omega, by omega, by omega⟩, fun k _ => F.r _ _ (by omega) (by omega) (by omega) (by omega), fun z k _ _ _ => F.r _ _ (by omega) (by omega) (by omega) (by omega), fun z k _ _ => F.r _ _ (by omega) (by omega) (by omega) (by omega), fun hh => absurd hh (by omega), fun _ => ⟨a4, a5⟩, fun z k _ _ => F.r _ _ (by omega) (by omega) (by omega) (by omega)⟩
theorem CFn_t (F : CFn s s1 w) (G : CFn s1 s2 w) (h9 : s.1 9 ≤ s1.1 9) : CFn s s2 w := by
  have h7 := F.R.m.2.2.2
  have hm := F.m
  exact CFn.of ⟨CRx_t F.R (CRx_w G.R h7), Nat.le_trans F.m G.m, fun j hj => (G.g j hj).trans (F.g j hj), fun j hj => (G.h j (by omega)).trans (F.h j hj), fun k j hk => (G.u k j (by omega)).trans (F.u k j hk)⟩
theorem fnN_g {cs : tr} {k k' : Nat} (F : CFn s s' w) (hg : g < s.1 9) (hk : k' ≤ s.1 8) (z : fnN (spe Bt n P U) s f g cs k k') : fnN (spe Bt n P U) s' f g cs k k' := by
  obtain ⟨a, r, b0, bs, z1, z2, z3, z4, z5, z6, z7, z8, z9⟩ := z
  have e : ∀ y, y < 6 → s'.2 15 (6 * g + y) = s.2 15 (6 * g + y) := fun y hy => F.h _ (by omega)
  exact ⟨a, r, b0, bs, z1, z2, (e 0 (by decide)).trans z3, (e 1 (by decide)).trans z4, (e 2 (by decide)).trans z5, (e 3 (by decide)).trans z6, (e 4 (by decide)).trans z7, (e 5 (by decide)).trans z8, stR_g F.R F.u (fun y hy => F.h y (by omega)) f true bs k k' _ _ hk z9⟩
theorem asQ (e : s.1 0 = w) : (asS s x y).1 0 = w + 1 ∧ (∀ c, c ≠ 0 → (asS s x y).1 c = s.1 c) ∧ (∀ z k, ¬ (z = 23 ∧ k = w) → (asS s x y).2 z k = s.2 z k) ∧ (asS s x y).2 23 w = glI x y := by
  refine ⟨by rw [as_0, e], fun c hc => as_1 hc, fun z k hz => ?_, by rw [as_23, if_pos e.symm]⟩
  unfold asS
  rw [u1_2, u2_2, if_neg (by rw [e]; exact hz)]
theorem pgM_w {r : tr} : ∀ f i, pgM K P f i = (j, some r) → pmW r := by
  intro f
  induction f generalizing r with
  | zero => intro i e; cases e
  | succ f ih =>
    intro i e
    rw [pgM_s] at e
    by_cases c44 : K i = 44
    · rw [if_pos c44] at e
      unfold tak at e
      by_cases c2 : K (i + 1) = 2
      · rw [if_pos c2] at e
        generalize hr : pgM K P f (i + 2) = r1 at e
        rcases r1 with ⟨l, _ | rr⟩
        · cases e
        · have e' : (l, some (Lean.RArray.branch (tE 13 (P (i + 1)) (i + 1)) (.leaf ()) rr)) = (j, some r) := e
          cases e'
          exact ⟨tE_K (by decide), rfl, ih _ hr⟩
      · rw [if_neg c2] at e; cases e
    · rw [if_neg c44] at e
      unfold tak at e
      by_cases c41 : K i = 41
      · rw [if_pos c41] at e; cases e; exact trivial
      · rw [if_neg c41] at e; cases e
/-- fun NAME ( -/
theorem x_f1 (bb : CPB h B n) (t : CTK h B n m Bt K P U V) (H : FNH P m s i) (T : TOP s w 141 0) (hw : w ≤ 4) :
    (∃ j, (∀ X, tak K 4 i (tak K 2 (i + 1) (tak K 40 (i + 2) X)) = (j, none)) ∧ RTn (d + 10) h B n P s i j 3) ∨
    ((∀ X, tak K 4 i (tak K 2 (i + 1) (tak K 40 (i + 2) X)) = X) ∧ (i + 3 < m ∧ K i = 4 ∧ K (i + 1) = 2) ∧ ∃ s3, PL (d + 10) h B 3 s s3 ∧ FQx s s3 w ∧ TOP s3 (w + 2) 143 0 ∧ PRH (spe Bt n P U) n m s3 [] (i + 3) ∧ s3.2 23 w = glI (Int32.ofNat 146) (Int32.ofNat 0) ∧ s3.2 23 (w + 1) = glI (Int32.ofNat 147) (Int32.ofNat 1) ∧ s3.2 15 (6 * s.1 9) = Int32.ofNat (i + 1) ∧ s3.2 15 (6 * s.1 9 + 3) = Int32.ofNat (s.1 8) ∧ s3.2 15 (6 * s.1 9 + 5) = -1) := by
  have hb := H.j
  have hm := t.m
  have hn := bb.n
  have hF := H.F
  have hq := t.q i hb
  obtain ⟨q4, q5, q6, q7⟩ := H.c
  have hN := H.N
  have hB := H.B
  have gw : w < gL n := gL_w (dp := 0) t hb (Nat.zero_le _) (by decide) (by omega)
  have gw3 : w + 3 < gL n := gL_w (dp := 0) t hb (Nat.zero_le _) (by decide) (by omega)
  have gw4 : w + 4 < gL n := gL_w (dp := 0) t hb (Nat.zero_le _) (by decide) (by omega)
  have e : (u1 s 0 w).1 1 = i := H.i
  have p1 := it_55 (d := d + 9) bb T gw (by decide) (c_55c (d := d + 3) (s := u1 s 0 w) bb t (by rw [e]; exact hb) (by show w + 5 ≤ gL n; omega))
  obtain ⟨a0, a1, a2, a3⟩ := asQ (s := u1 s 0 w) (w := w) (x := 146) (y := 0) rfl
  generalize asS (u1 s 0 w) 146 0 = sa at p1 a0 a1 a2 a3
  obtain ⟨b0, b1, b2, b3⟩ := asQ (x := 147) (y := 1) a0
  generalize asS sa 147 1 = sb at p1 b0 b1 b2 b3
  obtain ⟨c0, c1, c2, c3⟩ := asQ (x := 143) (y := 0) b0
  generalize asS sb 143 0 = sc at p1 c0 c1 c2 c3
  obtain ⟨d0, d1, d2, d3⟩ := asQ (x := 40) (y := 0) c0
  generalize asS sc 40 0 = sd at p1 d0 d1 d2 d3
  obtain ⟨f0, f1, f2, f3⟩ := asQ (x := 142) (y := 0) d0
  generalize asS sd 142 0 = se at p1 f0 f1 f2 f3
  have k1 : ∀ c, c ≠ 0 → se.1 c = s.1 c := fun c hc => by rw [f1 c hc, d1 c hc, c1 c hc, b1 c hc, a1 c hc]; exact if_neg hc
  have k2 : ∀ z k, ¬ (z = 23 ∧ w ≤ k) → se.2 z k = s.2 z k := fun z k hz => by rw [f2 z k (by omega), d2 z k (by omega), c2 z k (by omega), b2 z k (by omega), a2 z k (by omega)]; rfl
  have g0 : se.2 23 w = glI 146 0 := by rw [f2 23 w (by omega), d2 23 w (by omega), c2 23 w (by omega), b2 23 w (by omega)]; exact a3
  have g1 : se.2 23 (w + 1) = glI 147 1 := by rw [f2 23 _ (by omega), d2 23 _ (by omega), c2 23 _ (by omega)]; exact b3
  have g2 : se.2 23 (w + 2) = glI 143 0 := by rw [f2 23 _ (by omega), d2 23 _ (by omega)]; exact c3
  have g3 : se.2 23 (w + 3) = glI 40 0 := by rw [f2 23 _ (by omega)]; exact d3
  clear a1 a2 a3 b1 b2 b3 c1 c2 c3 d1 d2 d3 f1 f2 a0 b0 c0 d0
  have ef : se.2 16 7 = -1 := (k2 16 7 (by omega)).trans T.f
  have e1 : se.1 1 = i := (k1 1 (by decide)).trans H.i
  have F0 : FQx s se w := FQx.of ⟨fun c h0 h1 => k1 c (by omega), fun z k h1 h2 h3 h4 => k2 z k h3⟩
  have o6 : se.1 6 = s.1 6 := k1 6 (by decide)
  have o8 : se.1 8 = s.1 8 := k1 8 (by decide)
  have o9 : se.1 9 = s.1 9 := k1 9 (by decide)
  have o10 : se.1 10 = s.1 10 := k1 10 (by decide)
  have o11 : se.1 11 = s.1 11 := k1 11 (by decide)
  have Ff : ∀ S : cps, ∀ v, FQx S (u2 S 16 7 v) w := fun S v => FQx.of ⟨fun _ _ _ => rfl, fun z k h1 h2 h3 h4 => by rw [u2_2, if_neg h4]⟩
  have F1 : ∀ S : cps, ∀ c v, c < 3 → FQx S (u1 S c v) w := fun S c v hc => FQx.of ⟨fun k h1 h2 => by rw [u1_1, if_neg (by omega)], fun z k h1 h2 h3 h4 => rfl⟩
  by_cases c4 : ¬ K i = 4
  · refine Or.inl ⟨i, fun X => if_neg c4, ?_⟩
    rw [tkS_n ef (by rw [e1]; exact c4), e1] at p1
    exact ⟨1, _, p1, FQx_V F0 (FQx_V (Ff se _) (CVx_id (by show se.1 8 ≤ _; omega))), by omega, rfl, by show se.1 6 ≤ _; omega⟩
  have c4 : K i = 4 := Classical.not_not.mp c4
  have hi1 : i + 1 < m := tkM_s t.M hb c4 (by decide) (by decide)
  rw [tkS_p ef (by rw [e1]; exact c4), e1] at p1
  have x4 : ∀ X, tak K 4 i X = X := fun X => if_pos c4
  have T2 : TOP (u1 se 1 (i + 1)) (w + 4) 142 0 := TOP.of ⟨f0, ef, f3, ⟨by decide, by decide⟩⟩
  have p2 := it_55 (d := d + 9) bb T2 gw4 (by decide) (c_55d (d := d + 3) (s := u1 (u1 se 1 (i + 1)) 0 (w + 4)) bb t hi1 (by show 6 * se.1 9 + 5 < _; omega) (by show se.1 11 < 62; omega))
  have e2 : (u1 (u1 se 1 (i + 1)) 0 (w + 4)).1 1 = i + 1 := rfl
  rw [e2] at p2
  obtain ⟨so, hso⟩ : ∃ so, so = obS (ofS (u1 (u1 se 1 (i + 1)) 0 (w + 4)) (i + 1)) := ⟨_, rfl⟩
  rw [← hso] at p2
  have j1 : ∀ c, c ≠ 0 → c ≠ 1 → c ≠ 11 → so.1 c = se.1 c := fun c h0 h1 h11 => by
    rw [hso]
    show (if c = 11 then _ else if c = 0 then _ else if c = 1 then _ else se.1 c) = _
    rw [if_neg h11, if_neg h0, if_neg h1]
  have j11 : so.1 11 = 1 := by rw [hso]; show se.1 11 + 1 = 1; omega
  have jn : so.1 1 = i + 1 := by rw [hso]; rfl
  have jw : so.1 0 = w + 4 := by rw [hso]; rfl
  have jr : ∀ z k, so.2 z k = if z = 19 ∧ k = se.1 11 then Int32.ofNat (se.1 10) else if z = 15 ∧ k = 6 * se.1 9 + 5 then -1 else if z = 15 ∧ k = 6 * se.1 9 + 3 then Int32.ofNat (se.1 8) else if z = 15 ∧ k = 6 * se.1 9 + 2 then -1 else if z = 15 ∧ k = 6 * se.1 9 + 1 then 0 else if z = 15 ∧ k = 6 * se.1 9 then Int32.ofNat (i + 1) else se.2 z k := fun z k => by rw [hso]; rfl
  clear hso
  have jq : ∀ z k, z ≠ 19 → z ≠ 15 → so.2 z k = se.2 z k := fun z k h1 h2 => by rw [jr, if_neg (by omega), if_neg (by omega), if_neg (by omega), if_neg (by omega), if_neg (by omega), if_neg (by omega)]
  have j15 : ∀ k, k < 6 * se.1 9 → so.2 15 k = se.2 15 k := fun k hk => by rw [jr, if_neg (by omega), if_neg (by omega), if_neg (by omega), if_neg (by omega), if_neg (by omega), if_neg (by omega)]
  have r0 : so.2 15 (6 * se.1 9) = Int32.ofNat (i + 1) := by rw [jr, if_neg (by omega), if_neg (by omega), if_neg (by omega), if_neg (by omega), if_neg (by omega), if_pos ⟨rfl, rfl⟩]
  have r1 : so.2 15 (6 * se.1 9 + 1) = 0 := by rw [jr, if_neg (by omega), if_neg (by omega), if_neg (by omega), if_neg (by omega), if_pos ⟨rfl, rfl⟩]
  have r2 : so.2 15 (6 * se.1 9 + 2) = -1 := by rw [jr, if_neg (by omega), if_neg (by omega), if_neg (by omega), if_pos ⟨rfl, rfl⟩]
  have r3 : so.2 15 (6 * se.1 9 + 3) = Int32.ofNat (se.1 8) := by rw [jr, if_neg (by omega), if_neg (by omega), if_pos ⟨rfl, rfl⟩]
  have r5 : so.2 15 (6 * se.1 9 + 5) = -1 := by rw [jr, if_neg (by omega), if_pos ⟨rfl, rfl⟩]
  have r19 : so.2 19 0 = Int32.ofNat 0 := by
    rw [jr, if_pos ⟨rfl, by omega⟩, o10, H.E.c]
    rfl
  clear jr
  have of : so.2 16 7 = -1 := (jq 16 7 (by decide) (by decide)).trans ef
  have Fo : FQx s so w := FQx_t F0 (FQx.of ⟨fun c h0 h1 => j1 c (by omega) (by omega) (by omega), fun z k h1 h2 h3 h4 => by
    by_cases z15 : z = 15
    · subst z15; exact j15 k (by omega)
    · exact jq z k (by omega) z15⟩)
  have so6 : so.1 6 = s.1 6 := (j1 6 (by decide) (by decide) (by decide)).trans o6
  have so8 : so.1 8 = s.1 8 := (j1 8 (by decide) (by decide) (by decide)).trans o8
  have so9 : so.1 9 = s.1 9 := (j1 9 (by decide) (by decide) (by decide)).trans o9
  by_cases c2 : ¬ K (i + 1) = 2
  · refine Or.inl ⟨i + 1, fun X => (x4 _).trans (if_neg c2), ?_⟩
    rw [tkS_n of (by rw [jn]; exact c2), jn] at p2
    exact ⟨1 + 1, _, PL_t p1 p2, FQx_V Fo (FQx_V (Ff so _) (CVx_id (by show so.1 8 ≤ _; omega))), by omega, rfl, by show so.1 6 ≤ _; omega⟩
  have c2 : K (i + 1) = 2 := Classical.not_not.mp c2
  have hi2 : i + 2 < m := tkM_s t.M hi1 c2 (by decide) (by decide)
  rw [tkS_p of (by rw [jn]; exact c2), jn] at p2
  have x2 : ∀ X, tak K 2 (i + 1) X = X := fun X => if_pos c2
  have T3 : TOP (u1 so 1 (i + 1 + 1)) (w + 3) 40 0 := TOP.of ⟨jw, of, (jq 23 _ (by decide) (by decide)).trans g3, ⟨by decide, by decide⟩⟩
  have p3 := it_51 (d := d + 9) bb T3 gw3 (by decide) (c_51 (d := d + 7) (s := u1 (u1 so 1 (i + 1 + 1)) 0 (w + 3)) (k := 40) bb t hi2)
  have e3 : (u1 (u1 so 1 (i + 1 + 1)) 0 (w + 3)).1 1 = i + 2 := rfl
  by_cases c40 : ¬ K (i + 2) = 40
  · refine Or.inl ⟨i + 2, fun X => (x4 _).trans ((x2 _).trans (if_neg c40)), ?_⟩
    rw [tkS_n (s := u1 (u1 so 1 (i + 1 + 1)) 0 (w + 3)) of c40, e3] at p3
    exact ⟨1 + 1 + 1, _, PL_t (PL_t p1 p2) p3, FQx_V Fo (FQx_V (F1 so 1 _ (by decide)) (FQx_V (F1 _ 0 _ (by decide)) (FQx_V (Ff _ _) (CVx_id (by show so.1 8 ≤ _; omega))))), by omega, rfl, by show so.1 6 ≤ _; omega⟩
  have c40 : K (i + 2) = 40 := Classical.not_not.mp c40
  have hi3 : i + 3 < m := tkM_s t.M hi2 c40 (by decide) (by decide)
  rw [tkS_p (s := u1 (u1 so 1 (i + 1 + 1)) 0 (w + 3)) of c40, e3] at p3
  have x40 : ∀ X, tak K 40 (i + 2) X = X := fun X => if_pos c40
  have so2 : so.1 2 = 0 := (j1 2 (by decide) (by decide) (by decide)).trans ((k1 2 (by decide)).trans H.d)
  have so4 : so.1 4 = s.1 4 := (j1 4 (by decide) (by decide) (by decide)).trans (k1 4 (by decide))
  have so5 : so.1 5 = s.1 5 := (j1 5 (by decide) (by decide) (by decide)).trans (k1 5 (by decide))
  have so7 : so.1 7 = s.1 7 := (j1 7 (by decide) (by decide) (by decide)).trans (k1 7 (by decide))
  have E1 : SCE so m [] := SCE_g H.E ((j1 10 (by decide) (by decide) (by decide)).trans o10) ((j1 12 (by decide) (by decide) (by decide)).trans (k1 12 (by decide))) ((j1 13 (by decide) (by decide) (by decide)).trans (k1 13 (by decide))) (fun z k h1 h2 h3 => (jq z k (by omega) (by omega)).trans (k2 z k (by omega)))
  rw [o9] at r0 r1 r2 r3 r5
  rw [o8] at r3
  refine Or.inr ⟨fun X => (x4 _).trans ((x2 _).trans (x40 X)), ⟨hi3, c4, c2⟩, _, PL_t (PL_t p1 p2) p3, FQx_t Fo (FQx_t (F1 so 1 _ (by decide)) (FQx_t (F1 _ 0 _ (by decide)) (F1 _ 1 _ (by decide)))), TOP.of ⟨rfl, of, (jq 23 _ (by decide) (by decide)).trans g2, ⟨by decide, by decide⟩⟩, PRH.of ⟨rfl, hi3, so2, SCE_1 (SCE_1 (SCE_1 E1 (by decide)) (by decide)) (by decide), Nat.zero_le _, ⟨j11, r19⟩, ⟨by show so.1 4 ≤ _; omega, by show so.1 5 ≤ _; omega, by show so.1 6 ≤ _; omega, by show so.1 7 ≤ _; omega⟩, by show 3 * so.1 8 ≤ _; omega, by show 9 * so.1 9 ≤ _; omega, ?_, ?_⟩, (jq 23 _ (by decide) (by decide)).trans g0, (jq 23 _ (by decide) (by decide)).trans g1, r0, r3, r5⟩
  · show so.2 15 (6 * so.1 9 + 1) = _
    rw [so9]
    exact r1
  · show so.2 15 (6 * so.1 9 + 2) = _
    rw [so9]
    exact r2
end FAz
