set_option maxRecDepth 100000
/-! the class's parser: a whole SUM -/
abbrev RCn (d : Nat) (h : mh_H) (B : Nat) (P : Nat → Nat) (s : cps) (i j kf : Nat) : Prop := ∃ k s', PL d h B k s s' ∧ CWx s s' ∧ k ≤ 24 * (j - i) + kf ∧ s'.2 16 7 = Int32.ofNat (P j) ∧ s'.1 6 ≤ j + 1
abbrev RWs (d : Nat) (h : mh_H) (B : Nat) (lo : lkt) (s : cps) (w : Nat) (tu : Bool) (i dp j : Nat) (t : tr) : Prop := ∃ k s', PL d h B k s s' ∧ CGx s s' w (s.1 7) ∧ k + 4 ≤ 24 * (j - i) ∧ COK s s' w j dp (lwT lo t) ∧ s'.1 4 ≤ s.1 4 + (j - i) ∧ s'.1 5 ≤ s.1 5 + (j - i) ∧ s'.1 6 = s.1 6 + 1 ∧ s'.1 7 = s.1 7 ∧ SUX lo s' (s.1 6) t tu ∧ s'.2 (23 + s.1 8) 11 = s.2 (23 + s.1 8) 11 + 1 ∧ s'.2 16 11 = s.2 16 11
def RWa (d : Nat) (h : mh_H) (B : Nat) (P : Nat → Nat) (lo : lkt) (s : cps) (w : Nat) (tu : Bool) (i dp : Nat) (r : pqr) : Prop := match r with
  | (j, none) => RCn d h B P s i j 4
  | (j, some t) => RWs d h B lo s w tu i dp j t
section WSs
variable {d : Nat} {h : mh_H} {B n m : Nat} {Bt : Nat → Int32} {K : Nat → Int32} {P U : Nat → Nat} {V : Nat → Int} {lo : lkt} {s s1 s2 s' : cps} {w i dp f q : Nat} {tu : Bool}
theorem CGx_F (F : CGx s s1 w q) (G : CFx s1 s2 w (s1.1 5)) (h6 : s.1 6 < s1.1 6) (h5 : s1.1 5 ≤ s2.1 5) : CGx s s2 w q := by
  have h8 := CGx_8 F
  obtain ⟨m4, m5, m6, m7⟩ := F.m
  have l4 := G.m
  have e6 := G.a 6 (by decide) (by decide) (by decide) (by decide) (by decide)
  have e7 := G.a 7 (by decide) (by decide) (by decide) (by decide) (by decide)
  refine CGx.of ⟨fun c hc => (G.a c (by omega) (by omega) (by omega) (by omega) (by omega)).trans (F.a c hc), ⟨by omega, by omega, by omega, by omega⟩, fun j hj => (G.g j hj).trans (F.g j hj), fun j hj => (G.c j (by omega)).trans (F.c j hj), fun o j h1 h2 h3 => (G.e o j h1 h2 (by omega)).trans (F.e o j h1 h2 h3), fun o j h1 h2 => (G.r o j (by omega) (by omega) (by omega) (by omega)).trans (F.t o j h1 h2), fun h => ?_, fun h => ?_, fun o j h1 h2 => (G.r o j (by omega) (by omega) (by omega) (by omega)).trans (F.k o j h1 h2), fun o j h1 h2 h3 h4 => (G.r o j h1 (by omega) h3 (by omega)).trans (F.r o j h1 h2 h3 h4), fun o j h1 h2 => (G.t o j h1 (by omega)).trans (F.u o j h1 h2)⟩
  · obtain ⟨a1, a2⟩ := F.n h6
    exact ⟨(G.r 10 _ (by decide) (by omega) (by decide) (by omega)).trans a1, (G.r 11 _ (by decide) (by omega) (by decide) (by omega)).trans a2⟩
  · omega
/-- WHOLE_SUM -/
theorem x_ws (b : CPB h B n) (t : CTK h B n m Bt K P U V) (hf : 8 * (m - i) + 3 ≤ f) (H : CHc Bt n m P U s lo i dp) (T : TOP s w 161 (tun tu)) (hd : dp + 1 ≤ i) (hd2 : dp ≤ 60) (hw : w ≤ 12 * dp + 24) : RWa (d + 10) h B P lo s w tu i dp (pgX K P V f 0 (dp + 1) i) := by
  have hb := H.H.b
  have hN := H.H.N
  have hm := t.m
  have hc := H.H.c
  have hp := H.H.p
  have hx := H.x
  have gw : w < gL n := gL_w t hb (by omega) hd2 (by omega)
  obtain ⟨s1, hs1⟩ : ∃ s1, s1 = asS (u2 (osS (u1 s 0 w)) (23 + s.1 8) 11 (s.2 (23 + s.1 8) 11 + 1)) 162 (Int32.ofNat (tun tu)) := ⟨_, rfl⟩
  have p1 : PL (d + 10) h B 1 s s1 := by
    rw [hs1]
    exact it_70 b T gw ⟨by decide, by decide, by decide⟩ (c_70a (d := d + 6) (s := u1 s 0 w) b hN (by show s.1 6 ≤ n + 1; omega) gw)
  have a0 : s1.1 0 = w + 1 := by rw [hs1]; rfl
  have a1 : s1.1 1 = i := by rw [hs1]; exact H.H.i
  have a2 : s1.1 2 = dp := by rw [hs1]; exact H.H.d
  have a4 : s1.1 4 = s.1 4 := by rw [hs1]; rfl
  have a5 : s1.1 5 = s.1 5 := by rw [hs1]; rfl
  have a6 : s1.1 6 = s.1 6 + 1 := by rw [hs1]; rfl
  have a7 : s1.1 7 = s.1 7 := by rw [hs1]; rfl
  have a8 : s1.1 8 = s.1 8 := by rw [hs1]; rfl
  have af : s1.2 16 7 = -1 := by
    rw [hs1]
    show (if 16 = 23 + s.1 8 ∧ 7 = 11 then _ else s.2 16 7) = -1
    rw [if_neg (by omega)]
    exact T.f
  have aR : s1.2 16 11 = s.2 16 11 := by
    rw [hs1]
    show (if 16 = 23 + s.1 8 ∧ 11 = 11 then _ else s.2 16 11) = _
    rw [if_neg (by omega)]
  have os2 : ∀ o j, (osS (u1 s 0 w)).2 o j = if o = 11 ∧ j = s.1 6 then Int32.ofNat (s.1 5) else if o = 10 ∧ j = s.1 6 then Int32.ofNat (s.1 4) else s.2 o j := fun o j => rfl
  have row : ∀ o j, o ≠ 23 → s1.2 o j = if o = 23 + s.1 8 ∧ j = 11 then s.2 (23 + s.1 8) 11 + 1 else (osS (u1 s 0 w)).2 o j := fun o j ho => by
    rw [hs1]
    show (if o = 23 ∧ j = _ then _ else if o = 23 + s.1 8 ∧ j = 11 then _ else (osS (u1 s 0 w)).2 o j) = _
    rw [if_neg (fun z => ho z.1)]
  have r10 : s1.2 10 (s.1 6) = Int32.ofNat (s.1 4) := by rw [row 10 _ (by decide), if_neg (by omega), os2, if_neg (by omega), if_pos ⟨rfl, rfl⟩]
  have r11 : s1.2 11 (s.1 6) = Int32.ofNat (s.1 5) := by rw [row 11 _ (by decide), if_neg (by omega), os2, if_pos ⟨rfl, rfl⟩]
  have rS : s1.2 (23 + s.1 8) 11 = s.2 (23 + s.1 8) 11 + 1 := by rw [row _ _ (by omega), if_pos ⟨rfl, rfl⟩]
  have r0 : ∀ o j, o ≠ 23 → ¬ ((o = 10 ∨ o = 11) ∧ j = s.1 6) → ¬ (o = 23 + s.1 8 ∧ j = 11) → s1.2 o j = s.2 o j := fun o j h1 h2 h3 => by
    rw [row o j h1, if_neg h3, os2, if_neg (by omega), if_neg (by omega)]
  have r23 : ∀ j, j < w → s1.2 23 j = s.2 23 j := fun j hj => by
    rw [hs1, as_23, if_neg (by show ¬ j = w; omega)]
    show (if 23 = 23 + s.1 8 ∧ j = 11 then _ else s.2 23 j) = _
    rw [if_neg (by omega)]
  have g0 : s1.2 23 w = glI (Int32.ofNat 162) (Int32.ofNat (tun tu)) := by
    rw [hs1, as_23, if_pos (by show w = w; rfl)]
    rfl
  have ax : wSt s1 = wSt s := wSt_f a8 (r0 _ _ (by omega) (by omega) (by omega)) (r0 _ _ (by omega) (by omega) (by omega))
  have c1 : ∀ c, c = 3 ∨ 8 ≤ c → s1.1 c = s.1 c := fun c hc' => by
    rw [hs1]
    show (if c = 0 then _ else if c = 6 then _ else if c = 0 then _ else s.1 c) = s.1 c
    rw [if_neg (by omega), if_neg (by omega), if_neg (by omega)]
  clear hs1 row os2
  have F1 : CGx s s1 w (s.1 7) := CGx.of ⟨c1, ⟨by omega, by omega, by omega, by omega⟩, r23, fun j hj => r0 _ _ (by decide) (by omega) (by omega), fun o j h1 h2 h3 => r0 _ _ (by omega) (by omega) (by omega), fun o j h1 h2 => r0 _ _ (by omega) (by omega) (by omega), fun _ => ⟨r10, r11⟩, fun z => by omega, fun o j h1 h2 => r0 _ _ (by omega) (by omega) (by omega), fun o j h1 h2 h3 h4 => r0 _ _ h3 (by omega) (by omega), fun o j h1 h2 => r0 _ _ (by omega) (by omega) (by omega)⟩
  obtain ⟨S1, l1⟩ := CGx_S (Bt := Bt) (P := P) (U := U) F1 H.H.S
  have C1 : CHs Bt n m P U s1 lo i dp := CHs.of ⟨by rw [a8]; exact hN, a1, hb, a2, S1, l1.trans H.H.l, by omega, by omega⟩
  have R := (x_all (d := d) (lo := lo) b t f).1 i dp s1 w tu hf C1 (TOP.of ⟨a0, af, g0, ⟨by decide, tun_b⟩⟩) hd hd2 hw
  have gd := pgX_b (P := P) (V := V) t.M f 0 (dp + 1) i (by decide) hb
  generalize pgX K P V f 0 (dp + 1) i = r1 at R gd ⊢
  rcases r1 with ⟨j, _ | tt⟩
  · obtain ⟨k1, s2, p2, F2, b2, f2⟩ := R
    have gj : i ≤ j := gd.1
    have e6 := F2.a 6 (by decide) (by decide) (by decide) (by decide) (by decide)
    exact ⟨1 + k1, s2, PL_t p1 p2, CWx_t (CGx_W F1) (CFx_W F2), by omega, f2, by omega⟩
  obtain ⟨gi, gm, gt⟩ := gd
  obtain ⟨g3, -, -⟩ := gt tt rfl
  have g4' : i < j := (g3 rfl).1
  obtain ⟨k1, s2, p2, F2, b2, O2, c2, q2, x2, y2⟩ := R
  have o4 := O2.c
  have o5 := O2.p
  have e6 := F2.a 6 (by decide) (by decide) (by decide) (by decide) (by decide)
  have e7 := F2.a 7 (by decide) (by decide) (by decide) (by decide) (by decide)
  rw [a4] at o4 x2
  rw [a5] at o5
  rw [a4, a5] at y2
  refine ⟨1 + k1, s2, PL_t p1 p2, CGx_F F1 F2 (by omega) (by omega), by omega, COK.of ⟨O2.w, O2.j, O2.d, O2.f, by rw [O2.x, ax]⟩, by omega, by omega, by omega, by omega, ⟨by omega, s.1 4, s.1 5, ?_, ?_, by omega, by omega, x2, y2, fun z => by omega, fun _ => ⟨by omega, by omega⟩⟩, ?_, ?_⟩
  · rw [F2.r 10 _ (by decide) (by omega) (by decide) (by omega)]; exact r10
  · rw [F2.r 11 _ (by decide) (by omega) (by decide) (by omega)]; exact r11
  · rw [F2.t _ _ (by omega) (by omega)]; exact rS
  · rw [F2.r 16 _ (by decide) (by omega) (by decide) (by omega)]; exact aR
/-! codes of a COND that stand go on standing -/
theorem rlx_g {cs : tr} {a : Nat} (F : CGx s s' w q) (e : s'.2 13 a = s.2 13 a) (R : rlx lo s cs a) : rlx lo s' cs a := by
  obtain ⟨x, x1, x2, x3, x4⟩ := R
  exact ⟨x, e.trans x1, x2, SUX_g F x3, SUX_g F x4⟩
theorem cy_g {tt : tr} {mo an : Bool} {k k' : Nat} (F : CGx s s' w q) (e : ∀ j, k ≤ j → j < k' → s'.2 12 j = s.2 12 j ∧ s'.2 13 j = s.2 13 j) (R : cy (s.2 12) (s.2 13) (rlx lo s) tt mo an k k') : cy (s'.2 12) (s'.2 13) (rlx lo s') tt mo an k k' :=
  (cyi_f (ts tt) tt mo an k k' (Nat.le_refl _) R).2 e (fun cs a a1 a2 r => rlx_g F (e a a1 a2).2 r)
theorem cy_mo {tt : tr} {mo an : Bool} {k k' : Nat} (R : cy (s.2 12) (s.2 13) (rlx lo s) tt mo an k k') : k ≤ k' := (cyi_f (KK' := s.2 12) (WW' := s.2 13) (rel' := rlx lo s) (ts tt) tt mo an k k' (Nat.le_refl _) R).1
theorem SUX_o {a : Nat} {cs r r2 : tr} {x : Nat} (S : SUX lo s x (.branch a cs r) tu) : SUX lo s x (.branch a cs r2) tu := by
  unfold SUX at S ⊢
  rw [cl_o (r2 := r), pn_o (r2 := r)]
  simp only [cdx_o (r2 := r), pax_o (r2 := r)]
  exact S
theorem wSt_cc {x y : Int32} (hN : 0 < s.1 8) : wSt (ccS s x y) = wSt s := wSt_f rfl (by
  show (if 23 + s.1 8 = 13 ∧ _ then _ else if 23 + s.1 8 = 12 ∧ _ then _ else s.2 (23 + s.1 8) 5) = _
  rw [if_neg (by omega), if_neg (by omega)]) (by
  show (if 23 + s.1 8 = 13 ∧ _ then _ else if 23 + s.1 8 = 12 ∧ _ then _ else s.2 (23 + s.1 8) 6) = _
  rw [if_neg (by omega), if_neg (by omega)])
theorem cc_12 {x y : Int32} {j : Nat} : (ccS s x y).2 12 j = if j = s.1 7 then x else s.2 12 j := by
  show (if 12 = 13 ∧ j = s.1 7 then y else if 12 = 12 ∧ j = s.1 7 then x else s.2 12 j) = _
  rw [if_neg (by omega)]
  simp only [true_and]
theorem cc_13 {x y : Int32} {j : Nat} : (ccS s x y).2 13 j = if j = s.1 7 then y else s.2 13 j := by
  show (if 13 = 13 ∧ j = s.1 7 then y else if 13 = 12 ∧ j = s.1 7 then x else s.2 13 j) = _
  simp only [true_and]
  by_cases c : j = s.1 7
  · rw [if_pos c, if_pos c]
  · rw [if_neg c, if_neg c, if_neg (by omega)]
end WSs
