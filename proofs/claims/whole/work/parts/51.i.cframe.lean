set_option maxRecDepth 100000
/-! the class's parser over a SUM: frames, what it leaves -/
def loF (Bt : Nat → Int32) (n : Nat) (P U : Nat → Nat) (s : cps) : lkt := fun v => (fiT Bt n P U s v.toNat).map fun k => (slT s k, zT s k)
def wSt (s : cps) : Int32 × Int32 := (s.2 (23 + s.1 8) 5, s.2 (23 + s.1 8) 6)
def tun (tu : Bool) : Nat := if tu = true then 1 else 0
def CFx (s s' : cps) (w pf : Nat) : Prop := (∀ c, c ≠ 0 → c ≠ 1 → c ≠ 2 → c ≠ 4 → c ≠ 5 → s'.1 c = s.1 c) ∧ (s.1 4 ≤ s'.1 4) ∧ (∀ j, j < w → s'.2 23 j = s.2 23 j) ∧ (∀ j, j < 3 * s.1 4 → s'.2 6 j = s.2 6 j) ∧ (∀ o j, 7 ≤ o → o ≤ 9 → j < pf → s'.2 o j = s.2 o j) ∧ (∀ o j, o < 24 → (o < 6 ∨ 9 < o) → o ≠ 23 → ¬ (o = 16 ∧ j = 7) → s'.2 o j = s.2 o j) ∧ (∀ o j, 24 ≤ o → ¬ (o = 23 + s.1 8 ∧ (j = 5 ∨ j = 6)) → s'.2 o j = s.2 o j)
theorem CFx.of {s s' : cps} {w pf : Nat} (q : (∀ c, c ≠ 0 → c ≠ 1 → c ≠ 2 → c ≠ 4 → c ≠ 5 → s'.1 c = s.1 c) ∧ (s.1 4 ≤ s'.1 4) ∧ (∀ j, j < w → s'.2 23 j = s.2 23 j) ∧ (∀ j, j < 3 * s.1 4 → s'.2 6 j = s.2 6 j) ∧ (∀ o j, 7 ≤ o → o ≤ 9 → j < pf → s'.2 o j = s.2 o j) ∧ (∀ o j, o < 24 → (o < 6 ∨ 9 < o) → o ≠ 23 → ¬ (o = 16 ∧ j = 7) → s'.2 o j = s.2 o j) ∧ (∀ o j, 24 ≤ o → ¬ (o = 23 + s.1 8 ∧ (j = 5 ∨ j = 6)) → s'.2 o j = s.2 o j)) : CFx s s' w pf := q
theorem CFx.a {s s' : cps} {w pf : Nat} (q : CFx s s' w pf) : ∀ c, c ≠ 0 → c ≠ 1 → c ≠ 2 → c ≠ 4 → c ≠ 5 → s'.1 c = s.1 c := q.1
theorem CFx.m {s s' : cps} {w pf : Nat} (q : CFx s s' w pf) : s.1 4 ≤ s'.1 4 := q.2.1
theorem CFx.g {s s' : cps} {w pf : Nat} (q : CFx s s' w pf) : ∀ j, j < w → s'.2 23 j = s.2 23 j := q.2.2.1
theorem CFx.c {s s' : cps} {w pf : Nat} (q : CFx s s' w pf) : ∀ j, j < 3 * s.1 4 → s'.2 6 j = s.2 6 j := q.2.2.2.1
theorem CFx.e {s s' : cps} {w pf : Nat} (q : CFx s s' w pf) : ∀ o j, 7 ≤ o → o ≤ 9 → j < pf → s'.2 o j = s.2 o j := q.2.2.2.2.1
theorem CFx.r {s s' : cps} {w pf : Nat} (q : CFx s s' w pf) : ∀ o j, o < 24 → (o < 6 ∨ 9 < o) → o ≠ 23 → ¬ (o = 16 ∧ j = 7) → s'.2 o j = s.2 o j := q.2.2.2.2.2.1
theorem CFx.t {s s' : cps} {w pf : Nat} (q : CFx s s' w pf) : ∀ o j, 24 ≤ o → ¬ (o = 23 + s.1 8 ∧ (j = 5 ∨ j = 6)) → s'.2 o j = s.2 o j := q.2.2.2.2.2.2
def CHs (Bt : Nat → Int32) (n m : Nat) (P U : Nat → Nat) (s : cps) (lo : lkt) (i dp : Nat) : Prop := (0 < s.1 8) ∧ (s.1 1 = i) ∧ (i < m) ∧ (s.1 2 = dp) ∧ (CSC s n m) ∧ (loF Bt n P U s = lo) ∧ (s.1 4 ≤ i) ∧ (s.1 5 ≤ i)
theorem CHs.of {Bt : Nat → Int32} {n m : Nat} {P U : Nat → Nat} {s : cps} {lo : lkt} {i dp : Nat} (q : (0 < s.1 8) ∧ (s.1 1 = i) ∧ (i < m) ∧ (s.1 2 = dp) ∧ (CSC s n m) ∧ (loF Bt n P U s = lo) ∧ (s.1 4 ≤ i) ∧ (s.1 5 ≤ i)) : CHs Bt n m P U s lo i dp := q
theorem CHs.N {Bt : Nat → Int32} {n m : Nat} {P U : Nat → Nat} {s : cps} {lo : lkt} {i dp : Nat} (q : CHs Bt n m P U s lo i dp) : 0 < s.1 8 := q.1
theorem CHs.i {Bt : Nat → Int32} {n m : Nat} {P U : Nat → Nat} {s : cps} {lo : lkt} {i dp : Nat} (q : CHs Bt n m P U s lo i dp) : s.1 1 = i := q.2.1
theorem CHs.b {Bt : Nat → Int32} {n m : Nat} {P U : Nat → Nat} {s : cps} {lo : lkt} {i dp : Nat} (q : CHs Bt n m P U s lo i dp) : i < m := q.2.2.1
theorem CHs.d {Bt : Nat → Int32} {n m : Nat} {P U : Nat → Nat} {s : cps} {lo : lkt} {i dp : Nat} (q : CHs Bt n m P U s lo i dp) : s.1 2 = dp := q.2.2.2.1
theorem CHs.S {Bt : Nat → Int32} {n m : Nat} {P U : Nat → Nat} {s : cps} {lo : lkt} {i dp : Nat} (q : CHs Bt n m P U s lo i dp) : CSC s n m := q.2.2.2.2.1
theorem CHs.l {Bt : Nat → Int32} {n m : Nat} {P U : Nat → Nat} {s : cps} {lo : lkt} {i dp : Nat} (q : CHs Bt n m P U s lo i dp) : loF Bt n P U s = lo := q.2.2.2.2.2.1
theorem CHs.c {Bt : Nat → Int32} {n m : Nat} {P U : Nat → Nat} {s : cps} {lo : lkt} {i dp : Nat} (q : CHs Bt n m P U s lo i dp) : s.1 4 ≤ i := q.2.2.2.2.2.2.1
theorem CHs.p {Bt : Nat → Int32} {n m : Nat} {P U : Nat → Nat} {s : cps} {lo : lkt} {i dp : Nat} (q : CHs Bt n m P U s lo i dp) : s.1 5 ≤ i := q.2.2.2.2.2.2.2
def SOK (s s' : cps) (w j dp C1 P1 : Nat) (wr : Nat × Nat) : Prop := (s'.1 0 = w) ∧ (s'.1 1 = j) ∧ (s'.1 2 = dp) ∧ (s'.2 16 7 = -1) ∧ (s'.1 4 = C1) ∧ (s'.1 5 = P1) ∧ (wSt s' = wn (wSt s) wr)
theorem SOK.of {s s' : cps} {w j dp C1 P1 : Nat} {wr : Nat × Nat} (q : (s'.1 0 = w) ∧ (s'.1 1 = j) ∧ (s'.1 2 = dp) ∧ (s'.2 16 7 = -1) ∧ (s'.1 4 = C1) ∧ (s'.1 5 = P1) ∧ (wSt s' = wn (wSt s) wr)) : SOK s s' w j dp C1 P1 wr := q
theorem SOK.w {s s' : cps} {w j dp C1 P1 : Nat} {wr : Nat × Nat} (q : SOK s s' w j dp C1 P1 wr) : s'.1 0 = w := q.1
theorem SOK.j {s s' : cps} {w j dp C1 P1 : Nat} {wr : Nat × Nat} (q : SOK s s' w j dp C1 P1 wr) : s'.1 1 = j := q.2.1
theorem SOK.d {s s' : cps} {w j dp C1 P1 : Nat} {wr : Nat × Nat} (q : SOK s s' w j dp C1 P1 wr) : s'.1 2 = dp := q.2.2.1
theorem SOK.f {s s' : cps} {w j dp C1 P1 : Nat} {wr : Nat × Nat} (q : SOK s s' w j dp C1 P1 wr) : s'.2 16 7 = -1 := q.2.2.2.1
theorem SOK.c {s s' : cps} {w j dp C1 P1 : Nat} {wr : Nat × Nat} (q : SOK s s' w j dp C1 P1 wr) : s'.1 4 = C1 := q.2.2.2.2.1
theorem SOK.p {s s' : cps} {w j dp C1 P1 : Nat} {wr : Nat × Nat} (q : SOK s s' w j dp C1 P1 wr) : s'.1 5 = P1 := q.2.2.2.2.2.1
theorem SOK.x {s s' : cps} {w j dp C1 P1 : Nat} {wr : Nat × Nat} (q : SOK s s' w j dp C1 P1 wr) : wSt s' = wn (wSt s) wr := q.2.2.2.2.2.2
section FXs
variable {Bt : Nat → Int32} {n m : Nat} {P U : Nat → Nat} {K : Nat → Int32} {s s' s1 s2 : cps} {lo : lkt} {w w0 q q0 i dp i' dp' c v o j : Nat} {x y z : Int32}
theorem CFx_id : CFx s s w q := CFx.of ⟨fun _ _ _ _ _ _ => rfl, Nat.le_refl _, fun _ _ => rfl, fun _ _ => rfl, fun _ _ _ _ _ => rfl, fun _ _ _ _ _ _ => rfl, fun _ _ _ _ => rfl⟩
theorem CFx_t (F : CFx s s1 w q) (G : CFx s1 s2 w q) : CFx s s2 w q := by
  have h8 := F.a 8 (by decide) (by decide) (by decide) (by decide) (by decide)
  have hm := F.m
  exact CFx.of ⟨fun c h0 h1 h2 h4 h5 => (G.a c h0 h1 h2 h4 h5).trans (F.a c h0 h1 h2 h4 h5), Nat.le_trans F.m G.m, fun j hj => (G.g j hj).trans (F.g j hj), fun j hj => (G.c j (by omega)).trans (F.c j hj), fun o j h1 h2 h3 => (G.e o j h1 h2 h3).trans (F.e o j h1 h2 h3), fun o j h1 h2 h3 h4 => (G.r o j h1 h2 h3 h4).trans (F.r o j h1 h2 h3 h4), fun o j h1 h2 => (G.t o j h1 (by rw [h8]; exact h2)).trans (F.t o j h1 h2)⟩
theorem CFx_w (F : CFx s s1 w q) (h1 : w0 ≤ w) (h2 : q0 ≤ q) : CFx s s1 w0 q0 := CFx.of ⟨F.a, F.m, fun j hj => F.g j (by omega), F.c, fun o j a b c => F.e o j a b (by omega), F.r, F.t⟩
theorem CFx_1 (hc : c = 0 ∨ c = 1 ∨ c = 2 ∨ c = 5 ∨ (c = 4 ∧ s.1 4 ≤ v)) : CFx s (u1 s c v) w q := CFx.of ⟨fun d h0 h1 h2 h4 h5 => if_neg (by omega), by
  show s.1 4 ≤ if 4 = c then v else s.1 4
  split <;> omega, fun _ _ => rfl, fun _ _ => rfl, fun _ _ _ _ _ => rfl, fun _ _ _ _ _ _ => rfl, fun _ _ _ _ => rfl⟩
theorem CFx_2 (h1 : o = 23 → w ≤ j) (h2 : o = 6 → 3 * s.1 4 ≤ j) (h3 : 7 ≤ o → o ≤ 9 → q ≤ j) (h4 : o = 23 ∨ (6 ≤ o ∧ o ≤ 9) ∨ (o = 16 ∧ j = 7) ∨ (24 ≤ o ∧ o = 23 + s.1 8 ∧ (j = 5 ∨ j = 6))) : CFx s (u2 s o j x) w q := CFx.of ⟨fun _ _ _ _ _ _ => rfl, Nat.le_refl _, fun k hk => if_neg (by omega), fun k hk => if_neg (by omega), fun a k a1 a2 a3 => if_neg (by omega), fun a k a1 a2 a3 a4 => if_neg (by omega), fun a k a1 a2 => if_neg (by omega)⟩
theorem CFx_as (hw : w ≤ s.1 0) : CFx s (asS s x y) w q := CFx_t (CFx_2 (fun _ => hw) (fun z => by omega) (fun z => by omega) (Or.inl rfl)) (CFx_1 (Or.inl rfl))
theorem CFx_em : CFx s (emS s x y z) w q := by
  have a1 : CFx s (u2 s 6 (3 * s.1 4) x) w q := CFx_2 (fun z => by omega) (fun _ => Nat.le_refl _) (fun z => by omega) (by omega)
  have a2 : CFx (u2 s 6 (3 * s.1 4) x) (u2 (u2 s 6 (3 * s.1 4) x) 6 (3 * s.1 4 + 1) y) w q := CFx_2 (fun z => by omega) (fun _ => by rw [u2_1]; omega) (fun z => by omega) (by omega)
  have a3 : CFx (u2 (u2 s 6 (3 * s.1 4) x) 6 (3 * s.1 4 + 1) y) (u2 (u2 (u2 s 6 (3 * s.1 4) x) 6 (3 * s.1 4 + 1) y) 6 (3 * s.1 4 + 2) z) w q := CFx_2 (fun z => by omega) (fun _ => by rw [u2_1, u2_1]; omega) (fun z => by omega) (by omega)
  exact CFx_t (CFx_t (CFx_t a1 a2) a3) (CFx_1 (Or.inr (Or.inr (Or.inr (Or.inr ⟨rfl, by rw [u2_1, u2_1, u2_1]; omega⟩)))))
theorem CFx_pt (hq : q ≤ s.1 5) : CFx s (ptS s x y) w q := by
  have a1 : CFx s (u2 s 7 (s.1 5) (Int32.ofNat (s.1 4))) w q := CFx_2 (fun z => by omega) (fun z => by omega) (fun _ _ => hq) (by omega)
  have a2 : CFx (u2 s 7 (s.1 5) (Int32.ofNat (s.1 4))) (u2 (u2 s 7 (s.1 5) (Int32.ofNat (s.1 4))) 8 (s.1 5) x) w q := CFx_2 (fun z => by omega) (fun z => by omega) (fun _ _ => hq) (by omega)
  have a3 : CFx (u2 (u2 s 7 (s.1 5) (Int32.ofNat (s.1 4))) 8 (s.1 5) x) (u2 (u2 (u2 s 7 (s.1 5) (Int32.ofNat (s.1 4))) 8 (s.1 5) x) 9 (s.1 5) y) w q := CFx_2 (fun z => by omega) (fun z => by omega) (fun _ _ => hq) (by omega)
  exact CFx_t (CFx_t (CFx_t a1 a2) a3) (CFx_1 (by omega))
theorem CFx_nt (hN : 0 < s.1 8) : CFx s (ntS s x y) w q := by
  unfold ntS
  split
  · have a1 : CFx s (u2 s (23 + s.1 8) 5 x) w q := CFx_2 (fun z => by omega) (fun z => by omega) (fun z => by omega) (by omega)
    have a2 : CFx (u2 s (23 + s.1 8) 5 x) (u2 (u2 s (23 + s.1 8) 5 x) (23 + s.1 8) 6 y) w q := CFx_2 (fun z => by omega) (fun z => by omega) (fun z => by omega) (by rw [u2_1]; omega)
    exact CFx_t a1 a2
  · exact CFx_id
theorem CFx_f : CFx s (u2 s 16 7 x) w q := CFx_2 (fun z => by omega) (fun z => by omega) (fun z => by omega) (by omega)
theorem CFx_tk : CFx s (tkS K P s x) w q := by
  unfold tkS
  split
  · split
    · exact CFx_1 (by omega)
    · exact CFx_f
  · exact CFx_id
theorem CFx_rl : CFx s (rlS K P s) w q := by
  unfold rlS
  split
  · exact CFx_t CFx_tk CFx_tk
  · exact CFx_tk
theorem CFx_nu {p : Option Nat} (hN : 0 < s.1 8) : CFx s (nuS s p x) w q := by
  unfold nuS
  split
  · exact CFx_nt hN
  · split
    · exact CFx_nt hN
    · exact CFx_id
theorem CFx_ar {p : Option Nat} (hN : 0 < s.1 8) : CFx s (arS s p x) w q := by
  unfold arS
  split
  · exact CFx_nt hN
  · split
    · exact CFx_id
    · exact CFx_nt hN
theorem CFx_8 (F : CFx s s' w q) : s'.1 8 = s.1 8 := F.a 8 (by decide) (by decide) (by decide) (by decide) (by decide)
theorem CFx_S (F : CFx s s' w q) (S : CSC s n m) : CSC s' n m ∧ loF Bt n P U s' = loF Bt n P U s := by
  have e20 : s'.2 20 = s.2 20 := funext fun j => F.r 20 j (by decide) (by omega) (by decide) (by omega)
  have e21 : s'.2 21 = s.2 21 := funext fun j => F.r 21 j (by decide) (by omega) (by decide) (by omega)
  have e22 : s'.2 22 = s.2 22 := funext fun j => F.r 22 j (by decide) (by omega) (by decide) (by omega)
  have e10 := F.a 10 (by decide) (by decide) (by decide) (by decide) (by decide)
  have n1 : nmT s' = nmT s := by unfold nmT; rw [e20]
  have n2 : zT s' = zT s := by unfold zT; rw [e22]
  have n3 : slT s' = slT s := by unfold slT; rw [e21]
  refine ⟨CSC.of ⟨by rw [e10]; exact S.c, fun k hk => ?_, fun k hk => ?_, fun k hk => ?_⟩, ?_⟩
  · rw [n1, e20]; rw [e10] at hk; exact S.a k hk
  · rw [n2, e22]; rw [e10] at hk; exact S.z k hk
  · rw [n3, e21]; rw [e10] at hk; exact S.x k hk
  · unfold loF fiT
    rw [n1, n2, n3, e10]
theorem CHs_f (H : CHs Bt n m P U s lo i dp) (F : CFx s s' w q) (h1 : s'.1 1 = i') (hb : i' < m) (h2 : s'.1 2 = dp') (h4 : s'.1 4 ≤ i') (h5 : s'.1 5 ≤ i') : CHs Bt n m P U s' lo i' dp' := by
  obtain ⟨S, l⟩ := CFx_S (Bt := Bt) (P := P) (U := U) F H.S
  exact CHs.of ⟨by rw [CFx_8 F]; exact H.N, h1, hb, h2, S, l.trans H.l, h4, h5⟩
/-! the word of what is wrong -/
theorem wSt_f (h8 : s'.1 8 = s.1 8) (h5 : s'.2 (23 + s.1 8) 5 = s.2 (23 + s.1 8) 5) (h6 : s'.2 (23 + s.1 8) 6 = s.2 (23 + s.1 8) 6) : wSt s' = wSt s := by
  unfold wSt
  rw [h8, h5, h6]
theorem wSt_1 (hc : c ≠ 8) : wSt (u1 s c v) = wSt s := by
  have e : (u1 s c v).1 8 = s.1 8 := if_neg (fun z => hc z.symm)
  exact wSt_f e rfl rfl
theorem wSt_2 (ho : o < 24) (hN : 0 < s.1 8) : wSt (u2 s o j x) = wSt s := wSt_f rfl (if_neg (by omega)) (if_neg (by omega))
theorem wSt_as (hN : 0 < s.1 8) : wSt (asS s x y) = wSt s := by unfold asS; rw [wSt_1 (by decide), wSt_2 (by decide) hN]
theorem wSt_em (hN : 0 < s.1 8) : wSt (emS s x y z) = wSt s := by
  have a1 : wSt (u2 s 6 (3 * s.1 4) x) = wSt s := wSt_2 (by decide) hN
  have a2 : wSt (u2 (u2 s 6 (3 * s.1 4) x) 6 (3 * s.1 4 + 1) y) = wSt (u2 s 6 (3 * s.1 4) x) := wSt_2 (s := u2 s 6 (3 * s.1 4) x) (by decide) hN
  have a3 : wSt (u2 (u2 (u2 s 6 (3 * s.1 4) x) 6 (3 * s.1 4 + 1) y) 6 (3 * s.1 4 + 2) z) = wSt (u2 (u2 s 6 (3 * s.1 4) x) 6 (3 * s.1 4 + 1) y) := wSt_2 (s := u2 (u2 s 6 (3 * s.1 4) x) 6 (3 * s.1 4 + 1) y) (by decide) hN
  unfold emS
  rw [wSt_1 (by decide), a3, a2, a1]
theorem wSt_pt (hN : 0 < s.1 8) : wSt (ptS s x y) = wSt s := by
  have a1 : wSt (u2 s 7 (s.1 5) (Int32.ofNat (s.1 4))) = wSt s := wSt_2 (by decide) hN
  have a2 : wSt (u2 (u2 s 7 (s.1 5) (Int32.ofNat (s.1 4))) 8 (s.1 5) x) = wSt (u2 s 7 (s.1 5) (Int32.ofNat (s.1 4))) := wSt_2 (s := u2 s 7 (s.1 5) (Int32.ofNat (s.1 4))) (by decide) hN
  have a3 : wSt (u2 (u2 (u2 s 7 (s.1 5) (Int32.ofNat (s.1 4))) 8 (s.1 5) x) 9 (s.1 5) y) = wSt (u2 (u2 s 7 (s.1 5) (Int32.ofNat (s.1 4))) 8 (s.1 5) x) := wSt_2 (s := u2 (u2 s 7 (s.1 5) (Int32.ofNat (s.1 4))) 8 (s.1 5) x) (by decide) hN
  unfold ptS
  rw [wSt_1 (by decide), a3, a2, a1]
theorem wSt_tk (hN : 0 < s.1 8) : wSt (tkS K P s x) = wSt s := by
  unfold tkS
  split
  · split
    · exact wSt_1 (by decide)
    · exact wSt_2 (by decide) hN
  · rfl
theorem wSt_rl (hN : 0 < s.1 8) : wSt (rlS K P s) = wSt s := by
  unfold rlS
  split
  · rw [wSt_tk (by rw [tq_1 (by decide)]; exact hN), wSt_tk hN]
  · exact wSt_tk hN
theorem wSt_nt {k p : Nat} (hk : k ≠ 0) : wSt (ntS s (Int32.ofNat k) (Int32.ofNat p)) = wn (wSt s) (k, p) := by
  unfold ntS wn
  by_cases c : s.2 (23 + s.1 8) 5 = 0
  · rw [if_pos c, if_pos ⟨c, hk⟩]
    unfold wSt nfS
    rw [u2_1, u2_1]
    have e1 : (u2 (u2 s (23 + s.1 8) 5 (Int32.ofNat k)) (23 + s.1 8) 6 (Int32.ofNat p)).2 (23 + s.1 8) 5 = Int32.ofNat k := by
      rw [u2_2, if_neg (by omega), u2_2, if_pos ⟨rfl, rfl⟩]
    have e2 : (u2 (u2 s (23 + s.1 8) 5 (Int32.ofNat k)) (23 + s.1 8) 6 (Int32.ofNat p)).2 (23 + s.1 8) 6 = Int32.ofNat p := by
      rw [u2_2, if_pos ⟨rfl, rfl⟩]
    rw [e1, e2]
  · rw [if_neg c, if_neg (fun z => c z.1)]
theorem wSt_nu {p : Nat} : wSt (nuS s (fiT Bt n P U s i) (Int32.ofNat p)) = wn (wSt s) (lkW (loF Bt n P U s) (i : Int) false, p) := by
  have e : loF Bt n P U s (i : Int) = (fiT Bt n P U s i).map fun k => (slT s k, zT s k) := by unfold loF; rw [Int.toNat_natCast]
  unfold lkW
  rw [e]
  cases fiT Bt n P U s i with
  | none => exact wSt_nt (k := 1) (by decide)
  | some k =>
    show wSt (if 0 < zT s k then ntS s 3 (Int32.ofNat p) else s) = wn (wSt s) (if 0 < zT s k then 3 else 0, p)
    by_cases c : 0 < zT s k
    · rw [if_pos c, if_pos c]; exact wSt_nt (k := 3) (by decide)
    · rw [if_neg c, if_neg c]; exact (if_neg (fun z => z.2 rfl)).symm
theorem wSt_ar {p : Nat} : wSt (arS s (fiT Bt n P U s i) (Int32.ofNat p)) = wn (wSt s) (lkW (loF Bt n P U s) (i : Int) true, p) := by
  have e : loF Bt n P U s (i : Int) = (fiT Bt n P U s i).map fun k => (slT s k, zT s k) := by unfold loF; rw [Int.toNat_natCast]
  unfold lkW
  rw [e]
  cases fiT Bt n P U s i with
  | none => exact wSt_nt (k := 1) (by decide)
  | some k =>
    show wSt (if 0 < zT s k then s else ntS s 3 (Int32.ofNat p)) = wn (wSt s) (if 0 < zT s k then 0 else 3, p)
    by_cases c : 0 < zT s k
    · rw [if_pos c, if_pos c]; exact (if_neg (fun z => z.2 rfl)).symm
    · rw [if_neg c, if_neg c]; exact wSt_nt (k := 3) (by decide)
theorem nuV_lo (S : CSC s n m) : nuV s (fiT Bt n P U s i) = Int32.ofNat (lkN (loF Bt n P U s) (i : Int)) := by
  have e : loF Bt n P U s (i : Int) = (fiT Bt n P U s i).map fun k => (slT s k, zT s k) := by unfold loF; rw [Int.toNat_natCast]
  unfold lkN
  rw [e]
  cases f : fiT Bt n P U s i with
  | none => rfl
  | some k => exact (S.x k (fsr_b _ _ f).1).2
theorem tpV_lo (S : CSC s n m) : ∃ x, x < 8388608 ∧ tpV s (arV s (fiT Bt n P U s i)) = Int32.ofNat x ∧ x / 128 = (lkA (loF Bt n P U s) (i : Int)).1 ∧ x % 128 = (lkA (loF Bt n P U s) (i : Int)).2 := by
  have e : loF Bt n P U s (i : Int) = (fiT Bt n P U s i).map fun k => (slT s k, zT s k) := by unfold loF; rw [Int.toNat_natCast]
  unfold lkA
  rw [e]
  cases f : fiT Bt n P U s i with
  | none => exact ⟨1, by decide, rfl, rfl, rfl⟩
  | some k =>
    obtain ⟨x1, x2⟩ := S.x k (fsr_b _ _ f).1
    obtain ⟨z1, z2⟩ := S.z k (fsr_b _ _ f).1
    show ∃ x, x < 8388608 ∧ tpV s (if 0 < zT s k then some k else none) = Int32.ofNat x ∧ x / 128 = (if 0 < zT s k then (slT s k, zT s k % 128) else (0, 1)).1 ∧ x % 128 = (if 0 < zT s k then (slT s k, zT s k % 128) else (0, 1)).2
    by_cases c : 0 < zT s k
    · rw [if_pos c, if_pos c]
      refine ⟨128 * slT s k + zT s k % 128, by omega, ?_, by show _ = slT s k; omega, by show _ = zT s k % 128; omega⟩
      show 128 * s.2 21 k + (s.2 22 k - s.2 22 k / 128 * 128) = _
      rw [x2, z2, show (128 : Int32) = Int32.ofNat 128 from rfl, nn_rem z1 (by decide), nn_mul, nn_add]
    · rw [if_neg c, if_neg c]
      exact ⟨1, by decide, rfl, rfl, rfl⟩
/-- a node's, then a row's behind it -/
theorem lwT_A {a : Nat} {cs r : tr} {y : Int32 × Int32} : wn (wn y (lwT lo (.branch a cs (.leaf ())))) (lwT lo r) = wn y (lwT lo (.branch a cs r)) := by
  have hb := (lwT_b (lo := lo) (.branch a cs (.leaf ()))).1
  rw [wn_fw hb, lwT_B, lwT_B]
  show wn y (fw (fw (lwN lo a cs) (0, 0)) (lwT lo r)) = _
  generalize lwN lo a cs = A
  congr 1
  unfold fw
  by_cases c : A.1 = 0
  · rw [if_pos c, if_pos c]; rfl
  · rw [if_neg c, if_neg c]
/-- a node with children alone -/
theorem lwT_N {a : Nat} {cs : tr} {y : Int32 × Int32} (h1 : ¬ tK a = 13) (h2 : ¬ tK a = 14) (h3 : ¬ tK a = 16) : wn y (lwT lo (tNd a cs)) = wn y (lwT lo cs) := by
  show wn y (lwT lo (.branch a cs (.leaf ()))) = _
  rw [lwT_B, lwN_o h1 h2 h3]
  exact wn_z _ _
end FXs
