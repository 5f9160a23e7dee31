set_option maxRecDepth 100000
/-! the class's parser over functions: parameters -/
/-- the token of the first name that is given again, or -1 -/
def rpT (sp : Nat → Nat → Bool) : cen → Int32
  | [] => -1
  | (a, _) :: r => if rpT sp r = -1 then (if twE sp r.length r a = true then Int32.ofNat a else -1) else rpT sp r
def prL : tr → cen → cen
  | .leaf _, L => L
  | .branch a _ r, L => prL r (((tV a).toNat, 0) :: L)
def PFx (s s' : cps) (w : Nat) : Prop := (∀ c, c ≠ 0 → c ≠ 1 → c ≠ 10 → c ≠ 12 → s'.1 c = s.1 c) ∧ (∀ z k, ¬ (z = 15 ∧ (k = 6 * s.1 9 + 1 ∨ k = 6 * s.1 9 + 2)) → ¬ (20 ≤ z ∧ z ≤ 22) → ¬ (z = 23 ∧ w ≤ k) → ¬ (z = 16 ∧ k = 7) → s'.2 z k = s.2 z k)
theorem PFx.of {s s' : cps} {w : Nat} (q : (∀ c, c ≠ 0 → c ≠ 1 → c ≠ 10 → c ≠ 12 → s'.1 c = s.1 c) ∧ (∀ z k, ¬ (z = 15 ∧ (k = 6 * s.1 9 + 1 ∨ k = 6 * s.1 9 + 2)) → ¬ (20 ≤ z ∧ z ≤ 22) → ¬ (z = 23 ∧ w ≤ k) → ¬ (z = 16 ∧ k = 7) → s'.2 z k = s.2 z k)) : PFx s s' w := q
theorem PFx.a {s s' : cps} {w : Nat} (q : PFx s s' w) : ∀ c, c ≠ 0 → c ≠ 1 → c ≠ 10 → c ≠ 12 → s'.1 c = s.1 c := q.1
theorem PFx.r {s s' : cps} {w : Nat} (q : PFx s s' w) : ∀ z k, ¬ (z = 15 ∧ (k = 6 * s.1 9 + 1 ∨ k = 6 * s.1 9 + 2)) → ¬ (20 ≤ z ∧ z ≤ 22) → ¬ (z = 23 ∧ w ≤ k) → ¬ (z = 16 ∧ k = 7) → s'.2 z k = s.2 z k := q.2
def PRH (sp : Nat → Nat → Bool) (n m : Nat) (s : cps) (L : cen) (i : Nat) : Prop := (s.1 1 = i) ∧ (i < m) ∧ (s.1 2 = 0) ∧ (SCE s m L) ∧ (2 * L.length ≤ i) ∧ (s.1 11 = 1 ∧ s.2 19 0 = Int32.ofNat 0) ∧ (s.1 4 ≤ i ∧ s.1 5 ≤ i ∧ s.1 6 ≤ i ∧ s.1 7 ≤ i) ∧ (3 * s.1 8 ≤ i) ∧ (9 * s.1 9 ≤ n) ∧ (s.2 15 (6 * s.1 9 + 1) = Int32.ofNat L.length) ∧ (s.2 15 (6 * s.1 9 + 2) = rpT sp L)
theorem PRH.of {sp : Nat → Nat → Bool} {n m : Nat} {s : cps} {L : cen} {i : Nat} (q : (s.1 1 = i) ∧ (i < m) ∧ (s.1 2 = 0) ∧ (SCE s m L) ∧ (2 * L.length ≤ i) ∧ (s.1 11 = 1 ∧ s.2 19 0 = Int32.ofNat 0) ∧ (s.1 4 ≤ i ∧ s.1 5 ≤ i ∧ s.1 6 ≤ i ∧ s.1 7 ≤ i) ∧ (3 * s.1 8 ≤ i) ∧ (9 * s.1 9 ≤ n) ∧ (s.2 15 (6 * s.1 9 + 1) = Int32.ofNat L.length) ∧ (s.2 15 (6 * s.1 9 + 2) = rpT sp L)) : PRH sp n m s L i := q
theorem PRH.i {sp : Nat → Nat → Bool} {n m : Nat} {s : cps} {L : cen} {i : Nat} (q : PRH sp n m s L i) : s.1 1 = i := q.1
theorem PRH.j {sp : Nat → Nat → Bool} {n m : Nat} {s : cps} {L : cen} {i : Nat} (q : PRH sp n m s L i) : i < m := q.2.1
theorem PRH.d {sp : Nat → Nat → Bool} {n m : Nat} {s : cps} {L : cen} {i : Nat} (q : PRH sp n m s L i) : s.1 2 = 0 := q.2.2.1
theorem PRH.E {sp : Nat → Nat → Bool} {n m : Nat} {s : cps} {L : cen} {i : Nat} (q : PRH sp n m s L i) : SCE s m L := q.2.2.2.1
theorem PRH.l {sp : Nat → Nat → Bool} {n m : Nat} {s : cps} {L : cen} {i : Nat} (q : PRH sp n m s L i) : 2 * L.length ≤ i := q.2.2.2.2.1
theorem PRH.B {sp : Nat → Nat → Bool} {n m : Nat} {s : cps} {L : cen} {i : Nat} (q : PRH sp n m s L i) : s.1 11 = 1 ∧ s.2 19 0 = Int32.ofNat 0 := q.2.2.2.2.2.1
theorem PRH.c {sp : Nat → Nat → Bool} {n m : Nat} {s : cps} {L : cen} {i : Nat} (q : PRH sp n m s L i) : s.1 4 ≤ i ∧ s.1 5 ≤ i ∧ s.1 6 ≤ i ∧ s.1 7 ≤ i := q.2.2.2.2.2.2.1
theorem PRH.N {sp : Nat → Nat → Bool} {n m : Nat} {s : cps} {L : cen} {i : Nat} (q : PRH sp n m s L i) : 3 * s.1 8 ≤ i := q.2.2.2.2.2.2.2.1
theorem PRH.F {sp : Nat → Nat → Bool} {n m : Nat} {s : cps} {L : cen} {i : Nat} (q : PRH sp n m s L i) : 9 * s.1 9 ≤ n := q.2.2.2.2.2.2.2.2.1
theorem PRH.p {sp : Nat → Nat → Bool} {n m : Nat} {s : cps} {L : cen} {i : Nat} (q : PRH sp n m s L i) : s.2 15 (6 * s.1 9 + 1) = Int32.ofNat L.length := q.2.2.2.2.2.2.2.2.2.1
theorem PRH.t {sp : Nat → Nat → Bool} {n m : Nat} {s : cps} {L : cen} {i : Nat} (q : PRH sp n m s L i) : s.2 15 (6 * s.1 9 + 2) = rpT sp L := q.2.2.2.2.2.2.2.2.2.2
abbrev RPn (d : Nat) (h : mh_H) (B n : Nat) (P : Nat → Nat) (s : cps) (i j : Nat) : Prop := ∃ k s', PL d h B k s s' ∧ CVx s s' n ∧ k ≤ 2 * (j - i) + 2 ∧ s'.2 16 7 = Int32.ofNat (P j) ∧ s'.1 6 ≤ j + 1
abbrev RPs (d : Nat) (h : mh_H) (B n m : Nat) (sp : Nat → Nat → Bool) (s : cps) (w : Nat) (L : cen) (i j : Nat) (r : tr) : Prop := ∃ k s', PL d h B k s s' ∧ PFx s s' w ∧ k ≤ 2 * (j - i) + 1 ∧ PRH sp n m s' (prL r L) j ∧ s'.1 0 = w ∧ s'.2 16 7 = -1
def RPa (d : Nat) (h : mh_H) (B n m : Nat) (sp : Nat → Nat → Bool) (P : Nat → Nat) (s : cps) (w : Nat) (L : cen) (i : Nat) (r : pqr) : Prop := match r with
  | (j, none) => RPn d h B n P s i j
  | (j, some t) => RPs d h B n m sp s w L i j t
section PAz
variable {d : Nat} {h : mh_H} {B n m : Nat} {Bt : Nat → Int32} {K : Nat → Int32} {P U : Nat → Nat} {V : Nat → Int} {s s1 s2 s' : cps} {L : cen} {w b i dp N f j : Nat} {x y : Int32} {tw : Bool}
theorem PFx_t (F : PFx s s1 w) (G : PFx s1 s2 w) : PFx s s2 w := by
  have a9 := F.a 9 (by decide) (by decide) (by decide) (by decide)
  exact PFx.of ⟨fun c h0 h1 h2 h3 => (G.a c h0 h1 h2 h3).trans (F.a c h0 h1 h2 h3), fun z k h1 h2 h3 h4 => (G.r z k (by rw [a9]; exact h1) h2 h3 h4).trans (F.r z k h1 h2 h3 h4)⟩
theorem PFx_w {w0 : Nat} (F : PFx s s1 w) (hw : w0 ≤ w) : PFx s s1 w0 := PFx.of ⟨F.a, fun z k h1 h2 h3 h4 => F.r z k h1 h2 (by omega) h4⟩
theorem PFx_V (F : PFx s s1 w) (h8 : s.1 8 ≤ n / 3 + 2) : CVx s s1 n := by
  have a8 := F.a 8 (by decide) (by decide) (by decide) (by decide)
  exact CVx.of ⟨F.a 9 (by decide) (by decide) (by decide) (by decide), fun y hy => F.r 15 y (by omega) (by omega) (by omega) (by omega), ⟨by omega, by omega⟩⟩
theorem PFx_f : PFx s (u2 s 16 7 x) w := PFx.of ⟨fun _ _ _ _ _ => rfl, fun z k h1 h2 h3 h4 => by rw [u2_2, if_neg h4]⟩
theorem PFx_1 {c v : Nat} (hc : c = 0 ∨ c = 1) : PFx s (u1 s c v) w := PFx.of ⟨fun k h0 h1 h2 h3 => by rw [u1_1, if_neg (by omega)], fun z k h1 h2 h3 h4 => rfl⟩
theorem PFx_as (hw : w ≤ s.1 0) : PFx s (asS s x y) w := PFx.of ⟨fun k h0 h1 h2 h3 => as_1 h0, fun z k h1 h2 h3 h4 => by unfold asS; rw [u1_2, u2_2, if_neg (by omega)]⟩
theorem cp_1 : (cpS s tw x).1 = s.1 := by
  unfold cpS
  split <;> rfl
theorem cp_2 {z k : Nat} (h1 : ¬ (z = 15 ∧ (k = 6 * s.1 9 + 1 ∨ k = 6 * s.1 9 + 2))) : (cpS s tw x).2 z k = s.2 z k := by
  unfold cpS
  split
  · rw [u2_2, if_neg (by omega), u2_2, if_neg (by omega)]
  · rw [u2_2, if_neg (by omega)]
theorem cp_p : (cpS s tw x).2 15 (6 * s.1 9 + 1) = s.2 15 (6 * s.1 9 + 1) + 1 := by
  unfold cpS
  split
  · rw [u2_2, if_neg (by omega), u2_2, if_pos ⟨rfl, rfl⟩]
  · rw [u2_2, if_pos ⟨rfl, rfl⟩]
theorem cp_t : (cpS s tw x).2 15 (6 * s.1 9 + 2) = if tw = true ∧ s.2 15 (6 * s.1 9 + 2) = -1 then x else s.2 15 (6 * s.1 9 + 2) := by
  unfold cpS
  by_cases c : tw = true ∧ s.2 15 (6 * s.1 9 + 2) = -1
  · rw [if_pos c, if_pos c, u2_2, if_pos ⟨rfl, rfl⟩]
  · rw [if_neg c, if_neg c, u2_2, if_neg (by omega)]
theorem rpT_s {sp : Nat → Nat → Bool} {r : cen} {a z : Nat} : rpT sp ((a, z) :: r) = if twE sp r.length r a = true ∧ rpT sp r = -1 then Int32.ofNat a else rpT sp r := by
  show (if rpT sp r = -1 then (if twE sp r.length r a = true then Int32.ofNat a else -1) else rpT sp r) = _
  by_cases c1 : rpT sp r = -1
  · rw [if_pos c1]
    by_cases c2 : twE sp r.length r a = true
    · rw [if_pos c2, if_pos ⟨c2, c1⟩]
    · rw [if_neg c2, if_neg (fun z => c2 z.1), c1]
  · rw [if_neg c1, if_neg (fun z => c1 z.2)]
theorem x_p1 (bb : CPB h B n) (t : CTK h B n m Bt K P U V) (H : PRH (spe Bt n P U) n m s L i) (hl : 2 * L.length + 1 ≤ i) (T : TOP s w 144 0) (hw : w ≤ 20) (c2 : K i = 2) : ∃ s', PL (d + 10) h B 1 s s' ∧ PFx s s' w ∧ PRH (spe Bt n P U) n m s' ((i, 0) :: L) (i + 1) ∧ s'.1 0 = w ∧ s'.2 16 7 = -1 := by
  have hb := H.j
  have hm := t.m
  have hn := bb.n
  have hF := H.F
  obtain ⟨B1, B2⟩ := H.B
  obtain ⟨q4, q5, q6, q7⟩ := H.c
  have hN := H.N
  have hi1 : i + 1 < m := tkM_s t.M hb c2 (by decide) (by decide)
  have gw : w < gL n := gL_w (dp := 0) t hb (Nat.zero_le _) (by decide) (by omega)
  have e : (u1 s 0 w).1 1 = i := H.i
  have E1 : SCE (u1 s 0 w) m L := SCE_1 H.E (by decide)
  have e10 := H.E.c
  have z := c_55g (d := d + 3) (s := u1 s 0 w) bb t (SCE_C (n := n) E1 (by omega) hn hm.2) (k0 := 0) (by rw [e]; exact hb) (by rw [e]; exact c2) (by show 1 ≤ s.1 11 ∧ s.1 11 ≤ 62; omega) (by show s.2 19 (s.1 11 - 1) = _; rw [B1]; exact B2) (by decide) (by show 6 * s.1 9 + 5 < _; omega) (by show s.1 10 < _; omega)
  rw [e, SCE_t E1 (by omega) (Nat.zero_le _), Nat.sub_zero] at z
  have p1 := it_55 (d := d + 9) bb T gw (by decide) z
  obtain ⟨sc, hsc⟩ : ∃ sc, sc = cpS (u1 s 0 w) (twE (spe Bt n P U) L.length L i) (Int32.ofNat i) := ⟨_, rfl⟩
  rw [← hsc] at p1
  have c1 : sc.1 = (u1 s 0 w).1 := by rw [hsc]; exact cp_1
  have cr : ∀ z k, ¬ (z = 15 ∧ (k = 6 * s.1 9 + 1 ∨ k = 6 * s.1 9 + 2)) → sc.2 z k = s.2 z k := fun z k hz => by rw [hsc]; exact cp_2 (s := u1 s 0 w) hz
  have cp : sc.2 15 (6 * s.1 9 + 1) = s.2 15 (6 * s.1 9 + 1) + 1 := by rw [hsc]; exact cp_p (s := u1 s 0 w)
  have ct : sc.2 15 (6 * s.1 9 + 2) = rpT (spe Bt n P U) ((i, 0) :: L) := by
    rw [rpT_s, ← H.t, hsc]
    exact cp_t (s := u1 s 0 w)
  clear hsc
  have c9 : sc.1 9 = s.1 9 := by rw [c1]; rfl
  have Ec : SCE sc m L := SCE_g E1 (by rw [c1]) (by rw [c1]) (by rw [c1]) (fun z k h1 h2 h3 => cr z k (by omega))
  obtain ⟨sa, hsa⟩ : ∃ sa, sa = adS sc (Int32.ofNat i) 0 := ⟨_, rfl⟩
  rw [← hsa] at p1
  have Ea : SCE sa m ((i, 0) :: L) := by rw [hsa]; exact SCE_a Ec hb (by decide)
  have a1 : ∀ c, c ≠ 0 → c ≠ 10 → c ≠ 12 → sa.1 c = s.1 c := fun c h0 h1 h2 => by
    rw [hsa]
    unfold adS
    rw [if_pos rfl, u1_1, if_neg h1, u1_1, if_neg h2, u2_1, u2_1, u2_1, c1]
    exact if_neg h0
  have a2 : ∀ z k, ¬ (20 ≤ z ∧ z ≤ 22) → sa.2 z k = sc.2 z k := fun z k hz => by rw [hsa]; exact ad_2 (by omega)
  have a0 : sa.1 0 = w := by rw [hsa, ad_1 (by decide) (by decide) (by decide), c1]; rfl
  clear hsa
  have af : sa.2 16 7 = -1 := by rw [a2 16 7 (by omega), cr 16 7 (by omega)]; exact T.f
  have x1 : sa.1 1 = i := (a1 1 (by decide) (by decide) (by decide)).trans H.i
  rw [tkS_p af (by rw [x1]; exact c2), x1] at p1
  have y2 := a1 2 (by decide) (by decide) (by decide)
  have y4 := a1 4 (by decide) (by decide) (by decide)
  have y5 := a1 5 (by decide) (by decide) (by decide)
  have y6 := a1 6 (by decide) (by decide) (by decide)
  have y7 := a1 7 (by decide) (by decide) (by decide)
  have y8 := a1 8 (by decide) (by decide) (by decide)
  have y9 := a1 9 (by decide) (by decide) (by decide)
  have y11 := a1 11 (by decide) (by decide) (by decide)
  refine ⟨_, p1, PFx.of ⟨fun c h0 h1 h2 h3 => by rw [u1_1, if_neg h1]; exact a1 c h0 h2 h3, fun z k h1 h2 h3 h4 => by rw [u1_2, a2 z k h2]; exact cr z k h1⟩, PRH.of ⟨rfl, hi1, y2.trans H.d, SCE_1 Ea (by decide), by show 2 * (L.length + 1) ≤ _; omega, ⟨y11.trans B1, by rw [u1_2, a2 19 0 (by omega), cr 19 0 (by omega)]; exact B2⟩, ⟨by show sa.1 4 ≤ _; omega, by show sa.1 5 ≤ _; omega, by show sa.1 6 ≤ _; omega, by show sa.1 7 ≤ _; omega⟩, by show 3 * sa.1 8 ≤ _; omega, by show 9 * sa.1 9 ≤ _; omega, ?_, ?_⟩, a0, af⟩
  · show sa.2 15 (6 * sa.1 9 + 1) = Int32.ofNat (L.length + 1)
    rw [y9, a2 15 _ (by omega), cp, H.p]
    exact nn_add (a := L.length) (b := 1)
  · show sa.2 15 (6 * sa.1 9 + 2) = _
    rw [y9, a2 15 _ (by omega)]
    exact ct
end PAz
