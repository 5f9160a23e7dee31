set_option maxRecDepth 100000
/-! the class's parser over a COND: frames, SUMs that stand, codes of a COND -/
def CGx (s s' : cps) (w q0 : Nat) : Prop := (∀ c, c = 3 ∨ 8 ≤ c → s'.1 c = s.1 c) ∧ (s.1 4 ≤ s'.1 4 ∧ s.1 5 ≤ s'.1 5 ∧ s.1 6 ≤ s'.1 6 ∧ q0 ≤ s'.1 7) ∧ (∀ j, j < w → s'.2 23 j = s.2 23 j) ∧ (∀ j, j < 3 * s.1 4 → s'.2 6 j = s.2 6 j) ∧ (∀ o j, 7 ≤ o → o ≤ 9 → j < s.1 5 → s'.2 o j = s.2 o j) ∧ (∀ o j, o = 10 ∨ o = 11 → j < s.1 6 → s'.2 o j = s.2 o j) ∧ (s.1 6 < s'.1 6 → s'.2 10 (s.1 6) = Int32.ofNat (s.1 4) ∧ s'.2 11 (s.1 6) = Int32.ofNat (s.1 5)) ∧ (s'.1 6 = s.1 6 → s'.1 4 = s.1 4 ∧ s'.1 5 = s.1 5) ∧ (∀ o j, o = 12 ∨ o = 13 → j < q0 → s'.2 o j = s.2 o j) ∧ (∀ o j, o < 24 → (o < 6 ∨ 13 < o) → o ≠ 23 → ¬ (o = 16 ∧ (j = 7 ∨ j = 11)) → s'.2 o j = s.2 o j) ∧ (∀ o j, 24 ≤ o → ¬ (o = 23 + s.1 8 ∧ (j = 5 ∨ j = 6 ∨ j = 11)) → s'.2 o j = s.2 o j)
theorem CGx.of {s s' : cps} {w q0 : Nat} (q : (∀ c, c = 3 ∨ 8 ≤ c → s'.1 c = s.1 c) ∧ (s.1 4 ≤ s'.1 4 ∧ s.1 5 ≤ s'.1 5 ∧ s.1 6 ≤ s'.1 6 ∧ q0 ≤ s'.1 7) ∧ (∀ j, j < w → s'.2 23 j = s.2 23 j) ∧ (∀ j, j < 3 * s.1 4 → s'.2 6 j = s.2 6 j) ∧ (∀ o j, 7 ≤ o → o ≤ 9 → j < s.1 5 → s'.2 o j = s.2 o j) ∧ (∀ o j, o = 10 ∨ o = 11 → j < s.1 6 → s'.2 o j = s.2 o j) ∧ (s.1 6 < s'.1 6 → s'.2 10 (s.1 6) = Int32.ofNat (s.1 4) ∧ s'.2 11 (s.1 6) = Int32.ofNat (s.1 5)) ∧ (s'.1 6 = s.1 6 → s'.1 4 = s.1 4 ∧ s'.1 5 = s.1 5) ∧ (∀ o j, o = 12 ∨ o = 13 → j < q0 → s'.2 o j = s.2 o j) ∧ (∀ o j, o < 24 → (o < 6 ∨ 13 < o) → o ≠ 23 → ¬ (o = 16 ∧ (j = 7 ∨ j = 11)) → s'.2 o j = s.2 o j) ∧ (∀ o j, 24 ≤ o → ¬ (o = 23 + s.1 8 ∧ (j = 5 ∨ j = 6 ∨ j = 11)) → s'.2 o j = s.2 o j)) : CGx s s' w q0 := q
theorem CGx.a {s s' : cps} {w q0 : Nat} (q : CGx s s' w q0) : ∀ c, c = 3 ∨ 8 ≤ c → s'.1 c = s.1 c := q.1
theorem CGx.m {s s' : cps} {w q0 : Nat} (q : CGx s s' w q0) : s.1 4 ≤ s'.1 4 ∧ s.1 5 ≤ s'.1 5 ∧ s.1 6 ≤ s'.1 6 ∧ q0 ≤ s'.1 7 := q.2.1
theorem CGx.g {s s' : cps} {w q0 : Nat} (q : CGx s s' w q0) : ∀ j, j < w → s'.2 23 j = s.2 23 j := q.2.2.1
theorem CGx.c {s s' : cps} {w q0 : Nat} (q : CGx s s' w q0) : ∀ j, j < 3 * s.1 4 → s'.2 6 j = s.2 6 j := q.2.2.2.1
theorem CGx.e {s s' : cps} {w q0 : Nat} (q : CGx s s' w q0) : ∀ o j, 7 ≤ o → o ≤ 9 → j < s.1 5 → s'.2 o j = s.2 o j := q.2.2.2.2.1
theorem CGx.t {s s' : cps} {w q0 : Nat} (q : CGx s s' w q0) : ∀ o j, o = 10 ∨ o = 11 → j < s.1 6 → s'.2 o j = s.2 o j := q.2.2.2.2.2.1
theorem CGx.n {s s' : cps} {w q0 : Nat} (q : CGx s s' w q0) : s.1 6 < s'.1 6 → s'.2 10 (s.1 6) = Int32.ofNat (s.1 4) ∧ s'.2 11 (s.1 6) = Int32.ofNat (s.1 5) := q.2.2.2.2.2.2.1
theorem CGx.z {s s' : cps} {w q0 : Nat} (q : CGx s s' w q0) : s'.1 6 = s.1 6 → s'.1 4 = s.1 4 ∧ s'.1 5 = s.1 5 := q.2.2.2.2.2.2.2.1
theorem CGx.k {s s' : cps} {w q0 : Nat} (q : CGx s s' w q0) : ∀ o j, o = 12 ∨ o = 13 → j < q0 → s'.2 o j = s.2 o j := q.2.2.2.2.2.2.2.2.1
theorem CGx.r {s s' : cps} {w q0 : Nat} (q : CGx s s' w q0) : ∀ o j, o < 24 → (o < 6 ∨ 13 < o) → o ≠ 23 → ¬ (o = 16 ∧ (j = 7 ∨ j = 11)) → s'.2 o j = s.2 o j := q.2.2.2.2.2.2.2.2.2.1
theorem CGx.u {s s' : cps} {w q0 : Nat} (q : CGx s s' w q0) : ∀ o j, 24 ≤ o → ¬ (o = 23 + s.1 8 ∧ (j = 5 ∨ j = 6 ∨ j = 11)) → s'.2 o j = s.2 o j := q.2.2.2.2.2.2.2.2.2.2
/-- what stands behind a fault -/
def CWx (s s' : cps) : Prop := (∀ c, 8 ≤ c → s'.1 c = s.1 c) ∧ (∀ o j, o < 24 → (o < 6 ∨ 13 < o) → o ≠ 23 → o ≠ 16 → s'.2 o j = s.2 o j) ∧ (∀ o j, 24 ≤ o → o ≠ 23 + s.1 8 → s'.2 o j = s.2 o j)
theorem CWx.of {s s' : cps} (q : (∀ c, 8 ≤ c → s'.1 c = s.1 c) ∧ (∀ o j, o < 24 → (o < 6 ∨ 13 < o) → o ≠ 23 → o ≠ 16 → s'.2 o j = s.2 o j) ∧ (∀ o j, 24 ≤ o → o ≠ 23 + s.1 8 → s'.2 o j = s.2 o j)) : CWx s s' := q
theorem CWx.a {s s' : cps} (q : CWx s s') : ∀ c, 8 ≤ c → s'.1 c = s.1 c := q.1
theorem CWx.r {s s' : cps} (q : CWx s s') : ∀ o j, o < 24 → (o < 6 ∨ 13 < o) → o ≠ 23 → o ≠ 16 → s'.2 o j = s.2 o j := q.2.1
theorem CWx.u {s s' : cps} (q : CWx s s') : ∀ o j, 24 ≤ o → o ≠ 23 + s.1 8 → s'.2 o j = s.2 o j := q.2.2
def CHc (Bt : Nat → Int32) (n m : Nat) (P U : Nat → Nat) (s : cps) (lo : lkt) (i dp : Nat) : Prop := (CHs Bt n m P U s lo i dp) ∧ (s.1 6 ≤ i) ∧ (s.1 7 ≤ i)
theorem CHc.of {Bt : Nat → Int32} {n m : Nat} {P U : Nat → Nat} {s : cps} {lo : lkt} {i dp : Nat} (q : (CHs Bt n m P U s lo i dp) ∧ (s.1 6 ≤ i) ∧ (s.1 7 ≤ i)) : CHc Bt n m P U s lo i dp := q
theorem CHc.H {Bt : Nat → Int32} {n m : Nat} {P U : Nat → Nat} {s : cps} {lo : lkt} {i dp : Nat} (q : CHc Bt n m P U s lo i dp) : CHs Bt n m P U s lo i dp := q.1
theorem CHc.x {Bt : Nat → Int32} {n m : Nat} {P U : Nat → Nat} {s : cps} {lo : lkt} {i dp : Nat} (q : CHc Bt n m P U s lo i dp) : s.1 6 ≤ i := q.2.1
theorem CHc.y {Bt : Nat → Int32} {n m : Nat} {P U : Nat → Nat} {s : cps} {lo : lkt} {i dp : Nat} (q : CHc Bt n m P U s lo i dp) : s.1 7 ≤ i := q.2.2
def COK (s s' : cps) (w j dp : Nat) (wr : Nat × Nat) : Prop := (s'.1 0 = w) ∧ (s'.1 1 = j) ∧ (s'.1 2 = dp) ∧ (s'.2 16 7 = -1) ∧ (wSt s' = wn (wSt s) wr)
theorem COK.of {s s' : cps} {w j dp : Nat} {wr : Nat × Nat} (q : (s'.1 0 = w) ∧ (s'.1 1 = j) ∧ (s'.1 2 = dp) ∧ (s'.2 16 7 = -1) ∧ (wSt s' = wn (wSt s) wr)) : COK s s' w j dp wr := q
theorem COK.w {s s' : cps} {w j dp : Nat} {wr : Nat × Nat} (q : COK s s' w j dp wr) : s'.1 0 = w := q.1
theorem COK.j {s s' : cps} {w j dp : Nat} {wr : Nat × Nat} (q : COK s s' w j dp wr) : s'.1 1 = j := q.2.1
theorem COK.d {s s' : cps} {w j dp : Nat} {wr : Nat × Nat} (q : COK s s' w j dp wr) : s'.1 2 = dp := q.2.2.1
theorem COK.f {s s' : cps} {w j dp : Nat} {wr : Nat × Nat} (q : COK s s' w j dp wr) : s'.2 16 7 = -1 := q.2.2.2.1
theorem COK.x {s s' : cps} {w j dp : Nat} {wr : Nat × Nat} (q : COK s s' w j dp wr) : wSt s' = wn (wSt s) wr := q.2.2.2.2
/-- a SUM stands in the rows -/
def SUX (lo : lkt) (s : cps) (x : Nat) (t : tr) (tu : Bool) : Prop := x < s.1 6 ∧ ∃ c0 p0, s.2 10 x = Int32.ofNat c0 ∧ s.2 11 x = Int32.ofNat p0 ∧ c0 + cl t false ≤ s.1 4 ∧ p0 + pn t false ≤ s.1 5 ∧ cdx lo (s.2 6) t false c0 ∧ pax lo (s.2 7) (s.2 8) (s.2 9) t false tu p0 c0 ∧ (x + 1 < s.1 6 → s.2 10 (x + 1) = Int32.ofNat (c0 + cl t false) ∧ s.2 11 (x + 1) = Int32.ofNat (p0 + pn t false)) ∧ (x + 1 = s.1 6 → s.1 4 = c0 + cl t false ∧ s.1 5 = p0 + pn t false)
def rlx (lo : lkt) (s : cps) (cs : tr) (a : Nat) : Prop := ∃ x, s.2 13 a = Int32.ofNat x ∧ x < 40000 ∧ SUX lo s x cs false ∧ SUX lo s (x + 1) (tT cs) true
section CGs
variable {Bt : Nat → Int32} {n m : Nat} {P U : Nat → Nat} {K : Nat → Int32} {s s' s1 s2 : cps} {lo : lkt} {w w0 q q0 i dp i' dp' c v o j : Nat} {x y z : Int32}
theorem CGx_8 (F : CGx s s' w q) : s'.1 8 = s.1 8 := F.a 8 (Or.inr (by decide))
theorem CGx_t (F : CGx s s1 w q) (G : CGx s1 s2 w q) : CGx s s2 w q := by
  have h8 := CGx_8 F
  obtain ⟨m4, m5, m6, m7⟩ := F.m
  obtain ⟨l4, l5, l6, l7⟩ := G.m
  refine CGx.of ⟨fun c hc => (G.a c hc).trans (F.a c hc), ⟨by omega, by omega, by omega, l7⟩, fun j hj => (G.g j hj).trans (F.g j hj), fun j hj => (G.c j (by omega)).trans (F.c j hj), fun o j h1 h2 h3 => (G.e o j h1 h2 (by omega)).trans (F.e o j h1 h2 h3), fun o j h1 h2 => (G.t o j h1 (by omega)).trans (F.t o j h1 h2), fun h => ?_, fun h => ?_, fun o j h1 h2 => (G.k o j h1 h2).trans (F.k o j h1 h2), fun o j h1 h2 h3 h4 => (G.r o j h1 h2 h3 h4).trans (F.r o j h1 h2 h3 h4), fun o j h1 h2 => (G.u o j h1 (by rw [h8]; exact h2)).trans (F.u o j h1 h2)⟩
  · by_cases c : s.1 6 < s1.1 6
    · obtain ⟨a1, a2⟩ := F.n c
      exact ⟨(G.t 10 _ (Or.inl rfl) c).trans a1, (G.t 11 _ (Or.inr rfl) c).trans a2⟩
    · have e : s1.1 6 = s.1 6 := by omega
      obtain ⟨z1, z2⟩ := F.z e
      have a := G.n (by omega)
      rw [e, z1, z2] at a
      exact a
  · obtain ⟨z1, z2⟩ := F.z (by omega)
    obtain ⟨y1, y2⟩ := G.z (by omega)
    omega
theorem CGx_w (F : CGx s s1 w q) (h1 : w0 ≤ w) (h2 : q0 ≤ q) : CGx s s1 w0 q0 := CGx.of ⟨F.a, ⟨F.m.1, F.m.2.1, F.m.2.2.1, by have := F.m.2.2.2; omega⟩, fun j hj => F.g j (by omega), F.c, F.e, F.t, F.n, F.z, fun o j a b => F.k o j a (by omega), F.r, F.u⟩
/-- counters 0, 1, 2; goals; 16 7, 16 11; the statement's 5, 6, 11 -/
theorem CGx_1 (hc : c = 0 ∨ c = 1 ∨ c = 2) (hq : q ≤ s.1 7) : CGx s (u1 s c v) w q := CGx.of ⟨fun d h => if_neg (by omega), ⟨by show s.1 4 ≤ if 4 = c then v else s.1 4; rw [if_neg (by omega)]; omega, by show s.1 5 ≤ if 5 = c then v else s.1 5; rw [if_neg (by omega)]; omega, by show s.1 6 ≤ if 6 = c then v else s.1 6; rw [if_neg (by omega)]; omega, by show q ≤ if 7 = c then v else s.1 7; rw [if_neg (by omega)]; exact hq⟩, fun _ _ => rfl, fun _ _ => rfl, fun _ _ _ _ _ => rfl, fun _ _ _ _ => rfl, fun h => absurd h (by show ¬ s.1 6 < if 6 = c then v else s.1 6; rw [if_neg (by omega)]; omega), fun _ => ⟨if_neg (by omega), if_neg (by omega)⟩, fun _ _ _ _ => rfl, fun _ _ _ _ _ _ => rfl, fun _ _ _ _ => rfl⟩
theorem CGx_2 (h1 : o = 23 → w ≤ j) (h4 : o = 23 ∨ (o = 16 ∧ (j = 7 ∨ j = 11)) ∨ (24 ≤ o ∧ o = 23 + s.1 8 ∧ (j = 5 ∨ j = 6 ∨ j = 11)) ∨ ((o = 12 ∨ o = 13) ∧ q ≤ j)) (hq : q ≤ s.1 7) : CGx s (u2 s o j x) w q := CGx.of ⟨fun _ _ => rfl, ⟨Nat.le_refl _, Nat.le_refl _, Nat.le_refl _, hq⟩, fun k hk => if_neg (by omega), fun k hk => if_neg (by omega), fun a k a1 a2 a3 => if_neg (by omega), fun a k a1 a2 => if_neg (by omega), fun h => absurd h (Nat.lt_irrefl _), fun _ => ⟨rfl, rfl⟩, fun a k a1 a2 => if_neg (by omega), fun a k a1 a2 a3 a4 => if_neg (by omega), fun a k a1 a2 => if_neg (by omega)⟩
theorem CGx_as (hw : w ≤ s.1 0) (hq : q ≤ s.1 7) : CGx s (asS s x y) w q := CGx_t (CGx_2 (fun _ => hw) (Or.inl rfl) hq) (CGx_1 (Or.inl rfl) hq)
theorem CGx_7 (hq : q ≤ v) (hv : s.1 7 ≤ v) : CGx s (u1 s 7 v) w q := CGx.of ⟨fun d h => if_neg (by omega), ⟨Nat.le_refl _, Nat.le_refl _, Nat.le_refl _, hq⟩, fun _ _ => rfl, fun _ _ => rfl, fun _ _ _ _ _ => rfl, fun _ _ _ _ => rfl, fun h => absurd h (Nat.lt_irrefl _), fun _ => ⟨rfl, rfl⟩, fun _ _ _ _ => rfl, fun _ _ _ _ _ _ => rfl, fun _ _ _ _ => rfl⟩
theorem CGx_cc (hq : q ≤ s.1 7) : CGx s (ccS s x y) w q := CGx_t (CGx_t (CGx_2 (fun z => by omega) (Or.inr (Or.inr (Or.inr ⟨Or.inl rfl, hq⟩))) hq) (CGx_2 (fun z => by omega) (Or.inr (Or.inr (Or.inr ⟨Or.inr rfl, hq⟩))) hq)) (CGx_7 (by show q ≤ s.1 7 + 1; omega) (by show s.1 7 ≤ s.1 7 + 1; omega))
theorem CGx_ec {b : Nat} (hq : q ≤ b) (hb : b ≤ s.1 7) : CGx s (ecS s b) w q := CGx_t (CGx_cc (by omega)) (CGx_2 (fun z => by omega) (Or.inr (Or.inr (Or.inr ⟨Or.inr rfl, hq⟩))) (by show q ≤ s.1 7 + 1; omega))
theorem CWx_id : CWx s s := CWx.of ⟨fun _ _ => rfl, fun _ _ _ _ _ _ => rfl, fun _ _ _ _ => rfl⟩
theorem CWx_t (F : CWx s s1) (G : CWx s1 s2) : CWx s s2 := CWx.of ⟨fun c hc => (G.a c hc).trans (F.a c hc), fun o j h1 h2 h3 h4 => (G.r o j h1 h2 h3 h4).trans (F.r o j h1 h2 h3 h4), fun o j h1 h2 => (G.u o j h1 (by rw [F.a 8 (by decide)]; exact h2)).trans (F.u o j h1 h2)⟩
theorem CFx_W (F : CFx s s' w q) : CWx s s' := CWx.of ⟨fun c hc => F.a c (by omega) (by omega) (by omega) (by omega) (by omega), fun o j h1 h2 h3 h4 => F.r o j h1 (by omega) h3 (by omega), fun o j h1 h2 => F.t o j h1 (by omega)⟩
theorem CGx_W (F : CGx s s' w q) : CWx s s' := CWx.of ⟨fun c hc => F.a c (by omega), fun o j h1 h2 h3 h4 => F.r o j h1 (by omega) h3 (by omega), fun o j h1 h2 => F.u o j h1 (by omega)⟩
theorem CWx_f : CWx s (u2 s 16 7 x) := CWx.of ⟨fun _ _ => rfl, fun o j h1 h2 h3 h4 => if_neg (by omega), fun o j h1 h2 => if_neg (by omega)⟩
theorem CGx_S (F : CGx s s' w q) (S : CSC s n m) : CSC s' n m ∧ loF Bt n P U s' = loF Bt n P U s := by
  have e20 : s'.2 20 = s.2 20 := funext fun j => F.r 20 j (by decide) (by omega) (by decide) (by omega)
  have e21 : s'.2 21 = s.2 21 := funext fun j => F.r 21 j (by decide) (by omega) (by decide) (by omega)
  have e22 : s'.2 22 = s.2 22 := funext fun j => F.r 22 j (by decide) (by omega) (by decide) (by omega)
  have e10 := F.a 10 (Or.inr (by decide))
  have n1 : nmT s' = nmT s := by unfold nmT; rw [e20]
  have n2 : zT s' = zT s := by unfold zT; rw [e22]
  have n3 : slT s' = slT s := by unfold slT; rw [e21]
  refine ⟨CSC.of ⟨by rw [e10]; exact S.c, fun k hk => ?_, fun k hk => ?_, fun k hk => ?_⟩, ?_⟩
  · rw [n1, e20]; rw [e10] at hk; exact S.a k hk
  · rw [n2, e22]; rw [e10] at hk; exact S.z k hk
  · rw [n3, e21]; rw [e10] at hk; exact S.x k hk
  · unfold loF fiT
    rw [n1, n2, n3, e10]
theorem CHc_g (H : CHc Bt n m P U s lo i dp) (F : CGx s s' w q) (h1 : s'.1 1 = i') (hb : i' < m) (h2 : s'.1 2 = dp') (h4 : s'.1 4 ≤ i') (h5 : s'.1 5 ≤ i') (h6 : s'.1 6 ≤ i') (h7 : s'.1 7 ≤ i') : CHc Bt n m P U s' lo i' dp' := by
  obtain ⟨S, l⟩ := CGx_S (Bt := Bt) (P := P) (U := U) F H.H.S
  exact CHc.of ⟨CHs.of ⟨by rw [CGx_8 F]; exact H.H.N, h1, hb, h2, S, l.trans H.H.l, h4, h5⟩, h6, h7⟩
theorem SUX_g {t : tr} {tu : Bool} {k : Nat} (F : CGx s s' w q) (S : SUX lo s k t tu) : SUX lo s' k t tu := by
  obtain ⟨hx, c0, p0, s1, s2, s3, s4, s5, s6, s7, s8⟩ := S
  obtain ⟨m4, m5, m6, m7⟩ := F.m
  refine ⟨by omega, c0, p0, (F.t 10 k (Or.inl rfl) hx).trans s1, (F.t 11 k (Or.inr rfl) hx).trans s2, by omega, by omega, cdx_f (ts t) _ _ _ (Nat.le_refl _) (fun j j1 j2 => F.c j (by omega)) s5, pax_f (ts t) _ _ _ _ _ (Nat.le_refl _) (fun j j1 j2 => ⟨F.e 7 j (by omega) (by omega) (by omega), F.e 8 j (by omega) (by omega) (by omega), F.e 9 j (by omega) (by omega) (by omega)⟩) s6, fun h => ?_, fun h => ?_⟩
  · by_cases c : k + 1 < s.1 6
    · obtain ⟨a1, a2⟩ := s7 c
      exact ⟨(F.t 10 _ (Or.inl rfl) c).trans a1, (F.t 11 _ (Or.inr rfl) c).trans a2⟩
    · have e : k + 1 = s.1 6 := by omega
      obtain ⟨z1, z2⟩ := s8 e
      have a := F.n (by omega)
      rw [← e, z1, z2] at a
      exact a
  · obtain ⟨z1, z2⟩ := s8 (by omega)
    obtain ⟨y1, y2⟩ := F.z (by omega)
    omega
/-! codes of a COND -/
end CGs
section CYi
variable {KK WW KK' WW' : Nat → Int32} {rel rel' : tr → Nat → Prop} {n : Nat} {cs r r2 : tr} {an an' : Bool} {k k' k1 : Nat}
theorem cyi_o : cy KK WW rel (.branch n cs r) false an k k' = cy KK WW rel (.branch n cs r2) false an' k k' := by rcases cs with _ | ⟨_, _, _⟩ <;> rfl
theorem cyi_L : cy KK WW rel (.branch n cs r) true an k k' = ∃ k1, KK k = (if an = true then 132 else 133) ∧ WW k = Int32.ofNat (k1 + 1) ∧ cy KK WW rel (.branch n cs r) false an (k + 1) k1 ∧ KK k1 = (if an = true then 134 else 135) ∧ cy KK WW rel r true an (k1 + 1) k' := by rcases cs with _ | ⟨_, _, _⟩ <;> rfl
theorem cyi_26 (h : tK n = 26) : cy KK WW rel (.branch n cs r) false an k k' = ∃ b', k' = b' + 1 ∧ cy KK WW rel cs false false k b' ∧ KK b' = 33 := by
  rcases cs with _ | ⟨_, _, _⟩
  all_goals
    show (if tK n = 26 then _ else _) = _
    rw [if_pos h]
theorem cyi_25 {m : Nat} {c' r' : tr} (h : tK n = 24 ∨ tK n = 25) : cy KK WW rel (.branch n (.branch m c' r') r) false an k k' = ∃ k1, cy KK WW rel (.branch m c' r') false false k k1 ∧ cy KK WW rel r' true (decide (tK n = 25)) k1 k' := by
  show (if tK n = 26 then _ else if tK n = 24 ∨ tK n = 25 then _ else _) = _
  rw [if_neg (by omega), if_pos h]
theorem cyi_27 (h1 : ¬ tK n = 26) (h2 : ¬ (tK n = 24 ∨ tK n = 25)) : cy KK WW rel (.branch n cs r) false an k k' = ((27 ≤ tK n ∧ tK n ≤ 32) ∧ KK k = kd (tK n - 27) ∧ rel cs k ∧ k' = k + 1) := by
  rcases cs with _ | ⟨_, _, _⟩
  all_goals
    show (if tK n = 26 then _ else if tK n = 24 ∨ tK n = 25 then _ else _) = _
    rw [if_neg h1, if_neg h2]
theorem cyi_f : ∀ z t mo an k k', ts t ≤ z → cy KK WW rel t mo an k k' → k ≤ k' ∧ ((∀ j, k ≤ j → j < k' → KK' j = KK j ∧ WW' j = WW j) → (∀ cs a, k ≤ a → a < k' → rel cs a → rel' cs a) → cy KK' WW' rel' t mo an k k') := by
  intro z
  induction z with
  | zero =>
    intro t mo an k k' hz w
    cases t with
    | leaf _ =>
      obtain ⟨w1, w2⟩ : mo = true ∧ k' = k := w
      exact ⟨by omega, fun _ _ => ⟨w1, w2⟩⟩
    | branch n cs r => have : 1 + ts cs + ts r ≤ 0 := hz; omega
  | succ z ih =>
    have node : ∀ n cs r an k k', ts cs ≤ z → cy KK WW rel (.branch n cs r) false an k k' → k ≤ k' ∧ ((∀ j, k ≤ j → j < k' → KK' j = KK j ∧ WW' j = WW j) → (∀ cs a, k ≤ a → a < k' → rel cs a → rel' cs a) → cy KK' WW' rel' (.branch n cs r) false an k k') := by
      intro n cs r an k k' hz w
      by_cases k26 : tK n = 26
      · rw [cyi_26 k26] at w ⊢
        obtain ⟨b', w1, w2, w3⟩ := w
        obtain ⟨i1, i2⟩ := ih cs false false k b' hz w2
        refine ⟨by omega, fun e1 e2 => ⟨b', w1, i2 (fun j j1 j2 => e1 j j1 (by omega)) (fun c a a1 a2 => e2 c a a1 (by omega)), (e1 b' i1 (by omega)).1.trans w3⟩⟩
      · by_cases k25 : tK n = 24 ∨ tK n = 25
        · rcases cs with _ | ⟨m, c', r'⟩
          · exfalso
            have w' : (if tK n = 26 then _ else if tK n = 24 ∨ tK n = 25 then False else _) := w
            rw [if_neg k26, if_pos k25] at w'
            exact w'
          · have hz' : 1 + ts c' + ts r' ≤ z := hz
            rw [cyi_25 k25] at w ⊢
            obtain ⟨k1, w1, w2⟩ := w
            obtain ⟨i1, i2⟩ := ih _ _ _ _ _ hz w1
            obtain ⟨j1, j2⟩ := ih r' _ _ _ _ (by omega) w2
            exact ⟨by omega, fun e1 e2 => ⟨k1, i2 (fun j a1 a2 => e1 j a1 (by omega)) (fun c a a1 a2 => e2 c a a1 (by omega)), j2 (fun j a1 a2 => e1 j (by omega) a2) (fun c a a1 a2 => e2 c a (by omega) a2)⟩⟩
        · rw [cyi_27 k26 k25] at w ⊢
          obtain ⟨w1, w2, w3, w4⟩ := w
          exact ⟨by omega, fun e1 e2 => ⟨w1, (e1 k (Nat.le_refl _) (by omega)).1.trans w2, e2 cs k (Nat.le_refl _) (by omega) w3, w4⟩⟩
    intro t mo an k k' hz w
    cases t with
    | leaf _ =>
      obtain ⟨w1, w2⟩ : mo = true ∧ k' = k := w
      exact ⟨by omega, fun _ _ => ⟨w1, w2⟩⟩
    | branch n cs r =>
      have hz' : 1 + ts cs + ts r ≤ z + 1 := hz
      cases mo with
      | false => exact node n cs r an k k' (by omega) w
      | true =>
        rw [cyi_L] at w ⊢
        obtain ⟨k1, w1, w2, w3, w4, w5⟩ := w
        obtain ⟨i1, i2⟩ := node n cs r an _ _ (by omega) w3
        obtain ⟨j1, j2⟩ := ih r true an _ _ (by omega) w5
        exact ⟨by omega, fun e1 e2 => ⟨k1, (e1 k (Nat.le_refl _) (by omega)).1.trans w1, (e1 k (Nat.le_refl _) (by omega)).2.trans w2, i2 (fun j a1 a2 => e1 j (by omega) (by omega)) (fun c a a1 a2 => e2 c a (by omega) (by omega)), (e1 k1 (by omega) (by omega)).1.trans w4, j2 (fun j a1 a2 => e1 j (by omega) (by omega)) (fun c a a1 a2 => e2 c a (by omega) (by omega))⟩⟩
end CYi
