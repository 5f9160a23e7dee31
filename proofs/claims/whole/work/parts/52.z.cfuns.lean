set_option maxRecDepth 100000
/-! the class's parser over functions: all of them -/
/-- a row of functions stands: functions from g to g', statements from k to k' -/
def fnZ (sp : Nat → Nat → Bool) (s : cps) (f : Nat) : tr → Nat → Nat → Nat → Nat → Prop
  | .leaf _, g, k, g', k' => g' = g ∧ k' = k
  | .branch _ cs r, g, k, g', k' => ∃ k1, (k ≤ k1 ∧ k1 ≤ k') ∧ fnN sp s f g cs k k1 ∧ fnZ sp s f r (g + 1) k1 g' k'
/-- the last function's return -/
def FGV (s : cps) : Prop := s.1 9 = 0 ∨ s.2 15 (6 * (s.1 9 - 1) + 5) = -1 ∨ ∃ x, x < s.1 8 ∧ s.2 15 (6 * (s.1 9 - 1) + 5) = Int32.ofNat x
abbrev RZn (d : Nat) (h : mh_H) (B n : Nat) (P : Nat → Nat) (s : cps) (i j : Nat) : Prop := ∃ k s', PL d h B k s s' ∧ k ≤ 30 * (j - i) + 13 ∧ s'.2 16 7 = Int32.ofNat (P j) ∧ s'.1 6 ≤ j + 1 ∧ s'.1 8 ≤ n / 3 + 2 ∧ 9 * s'.1 9 ≤ n ∧ FGV s'
abbrev RZs (d : Nat) (h : mh_H) (B m : Nat) (sp : Nat → Nat → Bool) (P : Nat → Nat) (f : Nat) (s : cps) (i j : Nat) (t : tr) : Prop := ∃ k s', PL d h B k s s' ∧ k ≤ 30 * (j - i) ∧ (s'.1 0 = 0 ∧ s'.2 16 7 = -1) ∧ FNH P m s' j ∧ CFn s s' 0 ∧ s.1 9 < s'.1 9 ∧ FGV s' ∧ fnZ sp s' f t (s.1 9) (s.1 8) (s'.1 9) (s'.1 8)
def RZa (d : Nat) (h : mh_H) (B n m : Nat) (sp : Nat → Nat → Bool) (P : Nat → Nat) (f : Nat) (s : cps) (i : Nat) (r : pqr) : Prop := match r with
  | (j, none) => RZn d h B n P s i j
  | (j, some t) => RZs d h B m sp P f s i j t
section FDz
variable {d : Nat} {h : mh_H} {B n m : Nat} {Bt : Nat → Int32} {K : Nat → Int32} {P U : Nat → Nat} {V : Nat → Int} {s s1 s2 s' : cps} {L : cen} {w b i dp N f j g k0 kf1 kf i1 : Nat} {x y : Int32}
theorem fnN_v {sp : Nat → Nat → Bool} {cs : tr} {k : Nat} (h9 : s.1 9 = g + 1) (z : fnN sp s f g cs k (s.1 8)) : FGV s := by
  obtain ⟨a, r, b0, bs, z1, z2, z3, z4, z5, z6, z7, z8, z9⟩ := z
  refine Or.inr ?_
  have e : s.1 9 - 1 = g := by omega
  rw [e, z8]
  by_cases c : gvT bs = true
  · rw [if_pos c]
    refine Or.inr ⟨s.1 8 - 1, ?_, rfl⟩
    cases bs with
    | leaf _ => cases c
    | branch nn cc rr =>
      cases f with
      | zero => exact absurd z9 (fun q => q)
      | succ f =>
        obtain ⟨k1, w1, w2⟩ := z9
        have l1 := stN_le (fun t x y M z => stR_le f false t x y M 0 z) w1
        have l2 := stR_le _ _ _ _ _ _ _ w2
        omega
  · rw [if_neg c]
    exact Or.inl rfl
theorem FGV_V (F : CVx s s' n) (G : FGV s) : FGV s' := by
  have a9 := F.a
  have hm := F.m.1
  unfold FGV at G ⊢
  rw [a9]
  by_cases c : s.1 9 = 0
  · exact Or.inl c
  · rw [F.h _ (by omega)]
    rcases G with G | G | ⟨x, x1, x2⟩
    · exact Or.inl G
    · exact Or.inr (Or.inl G)
    · exact Or.inr (Or.inr ⟨x, by omega, x2⟩)
theorem fnN_le {sp : Nat → Nat → Bool} {cs : tr} {k k' : Nat} (z : fnN sp s f g cs k k') : k ≤ k' := by
  obtain ⟨a, r, b0, bs, z1, z2, z3, z4, z5, z6, z7, z8, z9⟩ := z
  exact stR_le _ _ _ _ _ _ _ z9
theorem x_pgz (bb : CPB h B n) (t : CTK h B n m Bt K P U V) (hP : TPL K P m) (hN8 : 8 * m + 6 ≤ N + 1) : ∀ f i s, m ≤ f + i → FNH P m s i → TOP s 1 141 0 → s.2 23 0 = glI (Int32.ofNat 140) (Int32.ofNat 0) → FGV s → RZa (d + 10) h B n m (spe Bt n P U) P N s i (pgZ K P V (N + 1) f i) := by
  intro f
  induction f with
  | zero =>
    intro i s hf H T g0 G
    have := H.j
    omega
  | succ f ih =>
    intro i s hf H T g0 G
    have hm := t.m
    have hn := bb.n
    have hb := H.j
    have hF := H.F
    have hqi := t.q i hb
    have R := x_fun (d := d) (V := V) bb t hP hN8 H T (by decide)
    have gd := pgF_b (P := P) (V := V) (N := N + 1) t.M hb
    show RZa (d + 10) h B n m (spe Bt n P U) P N s i (bnd (pgF K P V (N + 1) i) fun t j => if K j = 0 then (j, some t) else bnd (pgZ K P V (N + 1) f j) fun r k => (k, some (tA t r)))
    generalize pgF K P V (N + 1) i = r1 at R gd ⊢
    rcases r1 with ⟨j, _ | tt⟩
    · obtain ⟨k, s', p, F, b, f1, f2⟩ := R
      obtain ⟨m1, m2⟩ := F.m
      have a9 := F.a
      exact ⟨k, s', p, by omega, f1, f2, m2, by omega, FGV_V F G⟩
    obtain ⟨nn, cs, htt, k1, s1, p1, F1, b1, H1, ⟨w1, f1⟩, n1, fn1⟩ := R
    subst htt
    clear gd
    have hj := H1.j
    have hij : i < j := by omega
    have g1 : s1.2 23 0 = glI (Int32.ofNat 140) (Int32.ofNat 0) := (F1.g 0 (by decide)).trans g0
    have T1 : TOP s1 0 140 0 := TOP.of ⟨w1, f1, g1, ⟨by decide, by decide⟩⟩
    have G1 : FGV s1 := fnN_v n1 fn1
    have gw : 0 < gL n := gL_w (dp := 0) t hb (Nat.zero_le _) (by decide) (by omega)
    have gw2 : 2 < gL n := gL_w (dp := 0) t hb (Nat.zero_le _) (by decide) (by omega)
    have e1 : (u1 s1 0 0).1 1 = j := H1.i
    have m1 := F1.m
    show RZa (d + 10) h B n m (spe Bt n P U) P N s i (if K j = 0 then (j, some (tNd nn cs)) else bnd (pgZ K P V (N + 1) f j) fun r k => (k, some (tA (tNd nn cs) r)))
    by_cases c0 : K j = 0
    · rw [if_pos c0]
      have p2 := it_55 (d := d + 9) bb T1 gw (by decide) (c_55b (d := d + 3) (s := u1 s1 0 0) bb t (by rw [e1]; exact hj) (by rw [e1]; exact c0))
      have F2 : CFn s1 (u1 s1 0 0) 0 := CFn.of ⟨(CSx_1 (w := 0) (c := 0) (v := 0) (Or.inl rfl)).R, Nat.le_refl _, fun _ _ => rfl, fun _ _ => rfl, fun _ _ _ => rfl⟩
      have F1' : CFn s s1 0 := CFn.of ⟨F1.R, F1.m, fun y hy => absurd hy (Nat.not_lt_zero _), F1.h, F1.u⟩
      have fn2 := fnN_g F2 (g := s.1 9) (by omega) (Nat.le_refl _) fn1
      exact ⟨k1 + 1, _, PL_t p1 p2, by omega, ⟨rfl, f1⟩, FNH.of ⟨H1.i, hj, H1.d, H1.o, SCE_1 H1.E (Or.inl rfl), H1.B, H1.c, H1.N, H1.F, H1.H⟩, CFn_t F1' F2 (by omega), by show s.1 9 < s1.1 9; omega, G1, s1.1 8, ⟨m1, Nat.le_refl _⟩, fn2, n1, rfl⟩
    · rw [if_neg c0]
      have p2 := it_55 (d := d + 9) bb T1 gw (by decide) (c_55a (d := d + 3) (s := u1 s1 0 0) bb t (by rw [e1]; exact hj) (by rw [e1]; exact c0) (by show 0 + 2 ≤ gL n; omega))
      obtain ⟨a0, a1, a2, a3⟩ := asQ (s := u1 s1 0 0) (w := 0) (x := 140) (y := 0) rfl
      have E1 : SCE (asS (u1 s1 0 0) 140 0) m [] := SCE_as (SCE_1 H1.E (Or.inl rfl))
      generalize asS (u1 s1 0 0) 140 0 = sa at p2 a0 a1 a2 a3 E1
      obtain ⟨b0, bc, b2, b3⟩ := asQ (x := 141) (y := 0) a0
      have E2 : SCE (asS sa 141 0) m [] := SCE_as E1
      generalize asS sa 141 0 = s2 at p2 b0 bc b2 b3 E2
      have k1' : ∀ c, c ≠ 0 → s2.1 c = s1.1 c := fun c hc => by rw [bc c hc, a1 c hc]; exact if_neg hc
      have k2 : ∀ z k, z ≠ 23 → s2.2 z k = s1.2 z k := fun z k hz => by rw [b2 z k (by omega), a2 z k (by omega)]; rfl
      have z1 := k1' 1 (by decide)
      have z2 := k1' 2 (by decide)
      have z3 := k1' 3 (by decide)
      have z4 := k1' 4 (by decide)
      have z5 := k1' 5 (by decide)
      have z6 := k1' 6 (by decide)
      have z7 := k1' 7 (by decide)
      have z8 := k1' 8 (by decide)
      have z9 := k1' 9 (by decide)
      have z11 := k1' 11 (by decide)
      have F2 : CFn s1 s2 0 := CFn.of ⟨⟨⟨by omega, by omega, by omega, by omega⟩, fun k _ => k2 _ _ (by omega), fun z k _ _ _ => k2 _ _ (by omega), fun z k _ _ => k2 _ _ (by omega), fun hh => absurd hh (by omega), fun _ => ⟨z4, z5⟩, fun z k _ _ => k2 _ _ (by omega)⟩, by omega, fun y hy => absurd hy (Nat.not_lt_zero _), fun y _ => k2 _ _ (by omega), fun k y _ => k2 _ _ (by omega)⟩
      have F1' : CFn s s1 0 := CFn.of ⟨F1.R, F1.m, fun y hy => absurd hy (Nat.not_lt_zero _), F1.h, F1.u⟩
      have hc1 := H1.c
      have hN1 := H1.N
      have hF1 := H1.F
      have hd1 := H1.d
      have ho1 := H1.o
      have hB1 := H1.B
      have hi1 := H1.i
      have H2 : FNH P m s2 j := FNH.of ⟨by omega, hj, by omega, by omega, E2, by omega, ⟨by omega, by omega, by omega, by omega⟩, by omega, by rw [z9]; exact hF1, fun g hg => by
        have e15 : s2.2 15 (6 * g) = s1.2 15 (6 * g) := k2 _ _ (by omega)
        have := H1.H g (by omega)
        unfold nmH at this ⊢
        rw [e15]
        exact this⟩
      have T2 : TOP s2 1 141 0 := TOP.of ⟨b0, (k2 16 7 (by omega)).trans f1, b3, ⟨by decide, by decide⟩⟩
      have g2 : s2.2 23 0 = glI (Int32.ofNat 140) (Int32.ofNat 0) := (b2 23 0 (by omega)).trans a3
      have G2 : FGV s2 := by
        unfold FGV at G1 ⊢
        rw [z9, z8, k2 _ _ (by omega)]
        exact G1
      have R2 := ih j s2 (by omega) H2 T2 g2 G2
      have gd := pgZ_b (P := P) (V := V) (N := N + 1) t.M f j hj
      generalize pgZ K P V (N + 1) f j = r2 at R2 gd ⊢
      rcases r2 with ⟨l, _ | rr⟩
      · obtain ⟨k3, s3, p3, b3', r3⟩ := R2
        have gl : j ≤ l := gd.1
        exact ⟨k1 + 1 + k3, s3, PL_t (PL_t p1 p2) p3, by omega, r3⟩
      · obtain ⟨k3, s3, p3, b3', wf, H3, F3, l3, G3, fz⟩ := R2
        have gl : j ≤ l := gd.1
        have m3 := F3.m
        have m2 := F2.m
        have fn2 := fnN_g F2 (g := s.1 9) (by omega) (Nat.le_refl _) fn1
        have fn3 := fnN_g F3 (g := s.1 9) (by omega) (by omega) fn2
        rw [z9, z8, n1] at fz
        exact ⟨k1 + 1 + k3, s3, PL_t (PL_t p1 p2) p3, by omega, wf, H3, CFn_t (CFn_t F1' F2 (by omega)) F3 (by omega), by omega, G3, s1.1 8, ⟨m1, by omega⟩, fn3, fz⟩
end FDz
