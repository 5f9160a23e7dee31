set_option maxRecDepth 100000
/-! the class's parser over statements: frames -/
abbrev CRx (s s' : cps) (q0 : Nat) : Prop := (s.1 4 ≤ s'.1 4 ∧ s.1 5 ≤ s'.1 5 ∧ s.1 6 ≤ s'.1 6 ∧ q0 ≤ s'.1 7) ∧ (∀ j, j < 3 * s.1 4 → s'.2 6 j = s.2 6 j) ∧ (∀ o j, 7 ≤ o → o ≤ 9 → j < s.1 5 → s'.2 o j = s.2 o j) ∧ (∀ o j, o = 10 ∨ o = 11 → j < s.1 6 → s'.2 o j = s.2 o j) ∧ (s.1 6 < s'.1 6 → s'.2 10 (s.1 6) = Int32.ofNat (s.1 4) ∧ s'.2 11 (s.1 6) = Int32.ofNat (s.1 5)) ∧ (s'.1 6 = s.1 6 → s'.1 4 = s.1 4 ∧ s'.1 5 = s.1 5) ∧ (∀ o j, o = 12 ∨ o = 13 → j < q0 → s'.2 o j = s.2 o j)
theorem CRx.m {s s' : cps} {q0 : Nat} (q : CRx s s' q0) : s.1 4 ≤ s'.1 4 ∧ s.1 5 ≤ s'.1 5 ∧ s.1 6 ≤ s'.1 6 ∧ q0 ≤ s'.1 7 := q.1
theorem CRx.c {s s' : cps} {q0 : Nat} (q : CRx s s' q0) : ∀ j, j < 3 * s.1 4 → s'.2 6 j = s.2 6 j := q.2.1
theorem CRx.e {s s' : cps} {q0 : Nat} (q : CRx s s' q0) : ∀ o j, 7 ≤ o → o ≤ 9 → j < s.1 5 → s'.2 o j = s.2 o j := q.2.2.1
theorem CRx.t {s s' : cps} {q0 : Nat} (q : CRx s s' q0) : ∀ o j, o = 10 ∨ o = 11 → j < s.1 6 → s'.2 o j = s.2 o j := q.2.2.2.1
theorem CRx.n {s s' : cps} {q0 : Nat} (q : CRx s s' q0) : s.1 6 < s'.1 6 → s'.2 10 (s.1 6) = Int32.ofNat (s.1 4) ∧ s'.2 11 (s.1 6) = Int32.ofNat (s.1 5) := q.2.2.2.2.1
theorem CRx.z {s s' : cps} {q0 : Nat} (q : CRx s s' q0) : s'.1 6 = s.1 6 → s'.1 4 = s.1 4 ∧ s'.1 5 = s.1 5 := q.2.2.2.2.2.1
theorem CRx.k {s s' : cps} {q0 : Nat} (q : CRx s s' q0) : ∀ o j, o = 12 ∨ o = 13 → j < q0 → s'.2 o j = s.2 o j := q.2.2.2.2.2.2
def CSx (s s' : cps) (w : Nat) : Prop := (CRx s s' (s.1 7)) ∧ (∀ c, c = 3 ∨ c = 9 ∨ c = 11 → s'.1 c = s.1 c) ∧ (s.1 8 ≤ s'.1 8) ∧ (∀ j, j < w → s'.2 23 j = s.2 23 j) ∧ (∀ o j, (o = 17 ∧ j < s.1 3) ∨ (o = 19 ∧ j < s.1 11) → s'.2 o j = s.2 o j) ∧ (∀ j, j ≠ 6 * s.1 9 + 5 → s'.2 15 j = s.2 15 j) ∧ (∀ k j, k < s.1 8 → s'.2 (24 + k) j = s.2 (24 + k) j)
theorem CSx.of {s s' : cps} {w : Nat} (q : (CRx s s' (s.1 7)) ∧ (∀ c, c = 3 ∨ c = 9 ∨ c = 11 → s'.1 c = s.1 c) ∧ (s.1 8 ≤ s'.1 8) ∧ (∀ j, j < w → s'.2 23 j = s.2 23 j) ∧ (∀ o j, (o = 17 ∧ j < s.1 3) ∨ (o = 19 ∧ j < s.1 11) → s'.2 o j = s.2 o j) ∧ (∀ j, j ≠ 6 * s.1 9 + 5 → s'.2 15 j = s.2 15 j) ∧ (∀ k j, k < s.1 8 → s'.2 (24 + k) j = s.2 (24 + k) j)) : CSx s s' w := q
theorem CSx.R {s s' : cps} {w : Nat} (q : CSx s s' w) : CRx s s' (s.1 7) := q.1
theorem CSx.a {s s' : cps} {w : Nat} (q : CSx s s' w) : ∀ c, c = 3 ∨ c = 9 ∨ c = 11 → s'.1 c = s.1 c := q.2.1
theorem CSx.m {s s' : cps} {w : Nat} (q : CSx s s' w) : s.1 8 ≤ s'.1 8 := q.2.2.1
theorem CSx.g {s s' : cps} {w : Nat} (q : CSx s s' w) : ∀ j, j < w → s'.2 23 j = s.2 23 j := q.2.2.2.1
theorem CSx.o {s s' : cps} {w : Nat} (q : CSx s s' w) : ∀ o j, (o = 17 ∧ j < s.1 3) ∨ (o = 19 ∧ j < s.1 11) → s'.2 o j = s.2 o j := q.2.2.2.2.1
theorem CSx.h {s s' : cps} {w : Nat} (q : CSx s s' w) : ∀ j, j ≠ 6 * s.1 9 + 5 → s'.2 15 j = s.2 15 j := q.2.2.2.2.2.1
theorem CSx.u {s s' : cps} {w : Nat} (q : CSx s s' w) : ∀ k j, k < s.1 8 → s'.2 (24 + k) j = s.2 (24 + k) j := q.2.2.2.2.2.2
def CVx (s s' : cps) (n : Nat) : Prop := (s'.1 9 = s.1 9) ∧ (∀ j, j < 6 * s.1 9 → s'.2 15 j = s.2 15 j) ∧ (s.1 8 ≤ s'.1 8 ∧ s'.1 8 ≤ n / 3 + 2)
theorem CVx.of {s s' : cps} {n : Nat} (q : (s'.1 9 = s.1 9) ∧ (∀ j, j < 6 * s.1 9 → s'.2 15 j = s.2 15 j) ∧ (s.1 8 ≤ s'.1 8 ∧ s'.1 8 ≤ n / 3 + 2)) : CVx s s' n := q
theorem CVx.a {s s' : cps} {n : Nat} (q : CVx s s' n) : s'.1 9 = s.1 9 := q.1
theorem CVx.h {s s' : cps} {n : Nat} (q : CVx s s' n) : ∀ j, j < 6 * s.1 9 → s'.2 15 j = s.2 15 j := q.2.1
theorem CVx.m {s s' : cps} {n : Nat} (q : CVx s s' n) : s.1 8 ≤ s'.1 8 ∧ s'.1 8 ≤ n / 3 + 2 := q.2.2
def CHt (n m : Nat) (s : cps) (L : cen) (b i dp : Nat) : Prop := (s.1 1 = i) ∧ (i < m) ∧ (s.1 2 = dp) ∧ (1 ≤ dp ∧ dp ≤ 60 ∧ dp ≤ i) ∧ (SCE s m L) ∧ (b ≤ L.length ∧ 2 * L.length ≤ i) ∧ (s.1 11 = dp ∧ s.2 19 (dp - 1) = Int32.ofNat (L.length - b)) ∧ (s.1 4 ≤ i ∧ s.1 5 ≤ i ∧ s.1 6 ≤ i ∧ s.1 7 ≤ i) ∧ (3 * s.1 8 ≤ i) ∧ (s.1 3 + 1 ≤ dp) ∧ (9 * s.1 9 ≤ n) ∧ (∀ f, f < s.1 9 → nmH s f < m ∧ s.2 15 (6 * f) = Int32.ofNat (nmH s f))
theorem CHt.of {n m : Nat} {s : cps} {L : cen} {b i dp : Nat} (q : (s.1 1 = i) ∧ (i < m) ∧ (s.1 2 = dp) ∧ (1 ≤ dp ∧ dp ≤ 60 ∧ dp ≤ i) ∧ (SCE s m L) ∧ (b ≤ L.length ∧ 2 * L.length ≤ i) ∧ (s.1 11 = dp ∧ s.2 19 (dp - 1) = Int32.ofNat (L.length - b)) ∧ (s.1 4 ≤ i ∧ s.1 5 ≤ i ∧ s.1 6 ≤ i ∧ s.1 7 ≤ i) ∧ (3 * s.1 8 ≤ i) ∧ (s.1 3 + 1 ≤ dp) ∧ (9 * s.1 9 ≤ n) ∧ (∀ f, f < s.1 9 → nmH s f < m ∧ s.2 15 (6 * f) = Int32.ofNat (nmH s f))) : CHt n m s L b i dp := q
theorem CHt.i {n m : Nat} {s : cps} {L : cen} {b i dp : Nat} (q : CHt n m s L b i dp) : s.1 1 = i := q.1
theorem CHt.j {n m : Nat} {s : cps} {L : cen} {b i dp : Nat} (q : CHt n m s L b i dp) : i < m := q.2.1
theorem CHt.d {n m : Nat} {s : cps} {L : cen} {b i dp : Nat} (q : CHt n m s L b i dp) : s.1 2 = dp := q.2.2.1
theorem CHt.e {n m : Nat} {s : cps} {L : cen} {b i dp : Nat} (q : CHt n m s L b i dp) : 1 ≤ dp ∧ dp ≤ 60 ∧ dp ≤ i := q.2.2.2.1
theorem CHt.E {n m : Nat} {s : cps} {L : cen} {b i dp : Nat} (q : CHt n m s L b i dp) : SCE s m L := q.2.2.2.2.1
theorem CHt.l {n m : Nat} {s : cps} {L : cen} {b i dp : Nat} (q : CHt n m s L b i dp) : b ≤ L.length ∧ 2 * L.length ≤ i := q.2.2.2.2.2.1
theorem CHt.B {n m : Nat} {s : cps} {L : cen} {b i dp : Nat} (q : CHt n m s L b i dp) : s.1 11 = dp ∧ s.2 19 (dp - 1) = Int32.ofNat (L.length - b) := q.2.2.2.2.2.2.1
theorem CHt.c {n m : Nat} {s : cps} {L : cen} {b i dp : Nat} (q : CHt n m s L b i dp) : s.1 4 ≤ i ∧ s.1 5 ≤ i ∧ s.1 6 ≤ i ∧ s.1 7 ≤ i := q.2.2.2.2.2.2.2.1
theorem CHt.N {n m : Nat} {s : cps} {L : cen} {b i dp : Nat} (q : CHt n m s L b i dp) : 3 * s.1 8 ≤ i := q.2.2.2.2.2.2.2.2.1
theorem CHt.o {n m : Nat} {s : cps} {L : cen} {b i dp : Nat} (q : CHt n m s L b i dp) : s.1 3 + 1 ≤ dp := q.2.2.2.2.2.2.2.2.2.1
theorem CHt.F {n m : Nat} {s : cps} {L : cen} {b i dp : Nat} (q : CHt n m s L b i dp) : 9 * s.1 9 ≤ n := q.2.2.2.2.2.2.2.2.2.2.1
theorem CHt.H {n m : Nat} {s : cps} {L : cen} {b i dp : Nat} (q : CHt n m s L b i dp) : ∀ f, f < s.1 9 → nmH s f < m ∧ s.2 15 (6 * f) = Int32.ofNat (nmH s f) := q.2.2.2.2.2.2.2.2.2.2.2
section CRs
variable {Bt : Nat → Int32} {n m : Nat} {P U : Nat → Nat} {K : Nat → Int32} {s s' s1 s2 : cps} {lo : lkt} {L : cen} {w w0 q q0 i dp b c v o j : Nat} {x y : Int32}
theorem CRx_t (F : CRx s s1 q) (G : CRx s1 s2 q) : CRx s s2 q := by
  obtain ⟨m4, m5, m6, m7⟩ := F.m
  obtain ⟨l4, l5, l6, l7⟩ := G.m
  refine ⟨⟨by omega, by omega, by omega, l7⟩, fun j hj => (G.c j (by omega)).trans (F.c j hj), fun o j h1 h2 h3 => (G.e o j h1 h2 (by omega)).trans (F.e o j h1 h2 h3), fun o j h1 h2 => (G.t o j h1 (by omega)).trans (F.t o j h1 h2), fun h => ?_, fun h => ?_, fun o j h1 h2 => (G.k o j h1 h2).trans (F.k o j h1 h2)⟩
  · by_cases c : s.1 6 < s1.1 6
    · obtain ⟨a1, a2⟩ := F.n c
      exact ⟨(G.t 10 _ (Or.inl rfl) c).trans a1, (G.t 11 _ (Or.inr rfl) c).trans a2⟩
    · have e : s1.1 6 = s.1 6 := by omega
      obtain ⟨z1, z2⟩ := F.z e
      have a := G.n (by omega)
      rw [e, z1, z2] at a
      exact a
  · obtain ⟨z1, z2⟩ := F.z (by omega)
    obtain ⟨y1, y2⟩ := G.z (by omega)
    omega
theorem CRx_w (F : CRx s s1 q) (h : q0 ≤ q) : CRx s s1 q0 := ⟨⟨F.m.1, F.m.2.1, F.m.2.2.1, by have := F.m.2.2.2; omega⟩, F.c, F.e, F.t, F.n, F.z, fun o j a b => F.k o j a (by omega)⟩
theorem CGx_R (F : CGx s s' w q) : CRx s s' q := ⟨F.m, F.c, F.e, F.t, F.n, F.z, F.k⟩
theorem SUX_r {t : tr} {tu : Bool} {k : Nat} (F : CRx s s' q) (S : SUX lo s k t tu) : SUX lo s' k t tu := by
  obtain ⟨hx, c0, p0, s1, s2, s3, s4, s5, s6, s7, s8⟩ := S
  obtain ⟨m4, m5, m6, m7⟩ := F.m
  refine ⟨by omega, c0, p0, (F.t 10 k (Or.inl rfl) hx).trans s1, (F.t 11 k (Or.inr rfl) hx).trans s2, by omega, by omega, cdx_f (ts t) _ _ _ (Nat.le_refl _) (fun j j1 j2 => F.c j (by omega)) s5, pax_f (ts t) _ _ _ _ _ (Nat.le_refl _) (fun j j1 j2 => ⟨F.e 7 j (by omega) (by omega) (by omega), F.e 8 j (by omega) (by omega) (by omega), F.e 9 j (by omega) (by omega) (by omega)⟩) s6, fun h => ?_, fun h => ?_⟩
  · by_cases c : k + 1 < s.1 6
    · obtain ⟨a1, a2⟩ := s7 c
      exact ⟨(F.t 10 _ (Or.inl rfl) c).trans a1, (F.t 11 _ (Or.inr rfl) c).trans a2⟩
    · have e : k + 1 = s.1 6 := by omega
      obtain ⟨z1, z2⟩ := s8 e
      have a := F.n (by omega)
      rw [← e, z1, z2] at a
      exact a
  · obtain ⟨z1, z2⟩ := s8 (by omega)
    obtain ⟨y1, y2⟩ := F.z (by omega)
    omega
theorem cy_r {tt : tr} {mo an : Bool} {k k' : Nat} (F : CRx s s' q) (hk : k' ≤ q) (R : cy (s.2 12) (s.2 13) (rlx lo s) tt mo an k k') : cy (s'.2 12) (s'.2 13) (rlx lo s') tt mo an k k' :=
  (cyi_f (ts tt) tt mo an k k' (Nat.le_refl _) R).2 (fun j j1 j2 => ⟨F.k 12 j (Or.inl rfl) (by omega), F.k 13 j (Or.inr rfl) (by omega)⟩) (fun cs a a1 a2 r => by
    obtain ⟨x, x1, x2, x3, x4⟩ := r
    exact ⟨x, (F.k 13 a (Or.inr rfl) (by omega)).trans x1, x2, SUX_r F x3, SUX_r F x4⟩)
theorem suMR_r : ∀ (t : tr) x, CRx s s' q → suMR lo s t x → suMR lo s' t x := by
  intro t
  induction t with
  | leaf _ => exact fun x F w => Nat.le_trans w F.1.2.2.1
  | branch a cs r _ ih => exact fun x F w => ⟨SUX_r F w.1, ih (x + 1) F w.2⟩
theorem CSx_id : CSx s s w := CSx.of ⟨⟨⟨Nat.le_refl _, Nat.le_refl _, Nat.le_refl _, Nat.le_refl _⟩, fun _ _ => rfl, fun _ _ _ _ _ => rfl, fun _ _ _ _ => rfl, fun h => absurd h (Nat.lt_irrefl _), fun _ => ⟨rfl, rfl⟩, fun _ _ _ _ => rfl⟩, fun _ _ => rfl, Nat.le_refl _, fun _ _ => rfl, fun _ _ _ => rfl, fun _ _ => rfl, fun _ _ _ => rfl⟩
theorem CSx_t (F : CSx s s1 w) (G : CSx s1 s2 w) : CSx s s2 w := by
  have a3 := F.a 3 (by omega)
  have a9 := F.a 9 (by omega)
  have a11 := F.a 11 (by omega)
  have hm := F.m
  have h7 := F.R.m.2.2.2
  exact CSx.of ⟨CRx_t F.R (CRx_w G.R h7), fun c hc => (G.a c hc).trans (F.a c hc), Nat.le_trans F.m G.m, fun j hj => (G.g j hj).trans (F.g j hj), fun o j h => (G.o o j (by omega)).trans (F.o o j h), fun j h => (G.h j (by rw [a9]; exact h)).trans (F.h j h), fun k j hk => (G.u k j (by omega)).trans (F.u k j hk)⟩
theorem CSx_w (F : CSx s s1 w) (h : w0 ≤ w) : CSx s s1 w0 := CSx.of ⟨F.R, F.a, F.m, fun j hj => F.g j (by omega), F.o, F.h, F.u⟩
/-- a COND or a SUM inside a statement that began -/
theorem CSx_G (F : CSx s s1 w) (G : CGx s1 s2 w (s1.1 7)) (h8 : s.1 8 < s1.1 8) : CSx s s2 w := by
  have a3 := F.a 3 (by omega)
  have a9 := F.a 9 (by omega)
  have a11 := F.a 11 (by omega)
  have h7 := F.R.m.2.2.2
  exact CSx.of ⟨CRx_t F.R (CRx_w (CGx_R G) h7), fun c hc => (G.a c (by omega)).trans (F.a c hc), by rw [CGx_8 G]; exact F.m, fun j hj => (G.g j hj).trans (F.g j hj), fun o j h => (G.r o j (by omega) (by omega) (by omega) (by omega)).trans (F.o o j h), fun j h => (G.r 15 j (by decide) (by omega) (by decide) (by omega)).trans (F.h j h), fun k j hk => (G.u (24 + k) j (by omega) (by omega)).trans (F.u k j hk)⟩
theorem CSx_u (F : CSx s s1 w) (h8 : s.1 8 < s1.1 8) : CSx s (u2 s1 (23 + s1.1 8) j x) w := by
  have hR := F.R
  exact CSx.of ⟨⟨hR.m, fun k hk => (if_neg (by omega)).trans (hR.c k hk), fun o k h1 h2 h3 => (if_neg (by omega)).trans (hR.e o k h1 h2 h3), fun o k h1 h2 => (if_neg (by omega)).trans (hR.t o k h1 h2), fun h => ⟨(if_neg (by omega)).trans (hR.n h).1, (if_neg (by omega)).trans (hR.n h).2⟩, hR.z, fun o k h1 h2 => (if_neg (by omega)).trans (hR.k o k h1 h2)⟩, F.a, F.m, fun k hk => (if_neg (by omega)).trans (F.g k hk), fun o k h => (if_neg (by omega)).trans (F.o o k h), fun k h => (if_neg (by omega)).trans (F.h k h), fun k l hk => (if_neg (by omega)).trans (F.u k l hk)⟩
theorem CSx_1 (hc : c = 0 ∨ c = 1 ∨ c = 2) : CSx s (u1 s c v) w := CSx.of ⟨⟨⟨by show s.1 4 ≤ if 4 = c then v else s.1 4; rw [if_neg (by omega)]; omega, by show s.1 5 ≤ if 5 = c then v else s.1 5; rw [if_neg (by omega)]; omega, by show s.1 6 ≤ if 6 = c then v else s.1 6; rw [if_neg (by omega)]; omega, by show s.1 7 ≤ if 7 = c then v else s.1 7; rw [if_neg (by omega)]; omega⟩, fun _ _ => rfl, fun _ _ _ _ _ => rfl, fun _ _ _ _ => rfl, fun h => absurd h (by show ¬ s.1 6 < if 6 = c then v else s.1 6; rw [if_neg (by omega)]; omega), fun _ => ⟨if_neg (by omega), if_neg (by omega)⟩, fun _ _ _ _ => rfl⟩, fun d h => if_neg (by omega), by show s.1 8 ≤ if 8 = c then v else s.1 8; rw [if_neg (by omega)]; omega, fun _ _ => rfl, fun _ _ _ => rfl, fun _ _ => rfl, fun _ _ _ => rfl⟩
theorem CSx_bg : CSx s (bgS s x y) w := by
  have b2 : ∀ o j, o ≠ 24 + s.1 8 → (bgS s x y).2 o j = s.2 o j := fun o j h => bg_2 h
  exact CSx.of ⟨⟨⟨Nat.le_refl _, Nat.le_refl _, Nat.le_refl _, Nat.le_refl _⟩, fun j _ => b2 _ _ (by omega), fun o j h1 h2 _ => b2 _ _ (by omega), fun o j h _ => b2 _ _ (by omega), fun h => absurd h (Nat.lt_irrefl _), fun _ => ⟨rfl, rfl⟩, fun o j h _ => b2 _ _ (by omega)⟩, fun c h => if_neg (by omega), by rw [bg_8]; omega, fun j _ => b2 _ _ (by omega), fun o j h => b2 _ _ (by omega), fun j _ => b2 _ _ (by omega), fun k j hk => b2 _ _ (by omega)⟩
theorem CSx_V (F : CSx s s' w) (h : s'.1 8 ≤ n / 3 + 2) : CVx s s' n := CVx.of ⟨F.a 9 (by omega), fun j hj => F.h j (by omega), F.m, h⟩
theorem CVx_W (F : CSx s s1 w) (G : CWx s1 s2) (h : s1.1 8 ≤ n / 3 + 2) : CVx s s2 n := by
  have a9 := F.a 9 (by omega)
  exact CVx.of ⟨(G.a 9 (by decide)).trans a9, fun j hj => (G.r 15 j (by decide) (by omega) (by decide) (by decide)).trans (F.h j (by omega)), by rw [G.a 8 (by decide)]; exact F.m, by rw [G.a 8 (by decide)]; exact h⟩
theorem SCE_bg (E : SCE s m L) : SCE (bgS s x y) m L := SCE_g E rfl rfl rfl (fun o j h1 h2 h3 => bg_2 (by omega))
theorem SCE_G (E : SCE s m L) (F : CGx s s' w q) : SCE s' m L := SCE_g E (F.a 10 (by omega)) (F.a 12 (by omega)) (F.a 13 (by omega)) (fun o j h1 h2 h3 => F.r o j (by omega) (by omega) (by omega) (by omega))
theorem SCE_1 (E : SCE s m L) (hc : c = 0 ∨ c = 1 ∨ c = 2) : SCE (u1 s c v) m L := SCE_g E (if_neg (by omega)) (if_neg (by omega)) (if_neg (by omega)) (fun o j h1 h2 h3 => rfl)
theorem SCE_2 (E : SCE s m L) (ho : o < 20 ∨ 22 < o) : SCE (u2 s o j x) m L := SCE_g E rfl rfl rfl (fun a k h1 h2 h3 => if_neg (by omega))
theorem SCE_as (E : SCE s m L) : SCE (asS s x y) m L := SCE_1 (SCE_2 E (by omega)) (by omega)
theorem wSt_bg : wSt (bgS s x y) = (0, 0) := by
  unfold wSt
  rw [bg_8, bg_f, bg_f]
  rfl
end CRs
