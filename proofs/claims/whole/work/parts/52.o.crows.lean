set_option maxRecDepth 100000
/-! the class's parser over rows of statements -/
def CBx (s s' : cps) (w : Nat) : Prop := (CRx s s' (s.1 7)) ∧ (∀ c, c = 3 ∨ c = 9 → s'.1 c = s.1 c) ∧ (s.1 8 ≤ s'.1 8) ∧ (∀ j, j < w → s'.2 23 j = s.2 23 j) ∧ (∀ o j, (o = 17 ∧ j < s.1 3) ∨ (o = 19 ∧ j + 1 < s.1 11) → s'.2 o j = s.2 o j) ∧ (∀ j, j ≠ 6 * s.1 9 + 5 → s'.2 15 j = s.2 15 j) ∧ (∀ k j, k < s.1 8 → s'.2 (24 + k) j = s.2 (24 + k) j)
theorem CBx.of {s s' : cps} {w : Nat} (q : (CRx s s' (s.1 7)) ∧ (∀ c, c = 3 ∨ c = 9 → s'.1 c = s.1 c) ∧ (s.1 8 ≤ s'.1 8) ∧ (∀ j, j < w → s'.2 23 j = s.2 23 j) ∧ (∀ o j, (o = 17 ∧ j < s.1 3) ∨ (o = 19 ∧ j + 1 < s.1 11) → s'.2 o j = s.2 o j) ∧ (∀ j, j ≠ 6 * s.1 9 + 5 → s'.2 15 j = s.2 15 j) ∧ (∀ k j, k < s.1 8 → s'.2 (24 + k) j = s.2 (24 + k) j)) : CBx s s' w := q
theorem CBx.R {s s' : cps} {w : Nat} (q : CBx s s' w) : CRx s s' (s.1 7) := q.1
theorem CBx.a {s s' : cps} {w : Nat} (q : CBx s s' w) : ∀ c, c = 3 ∨ c = 9 → s'.1 c = s.1 c := q.2.1
theorem CBx.m {s s' : cps} {w : Nat} (q : CBx s s' w) : s.1 8 ≤ s'.1 8 := q.2.2.1
theorem CBx.g {s s' : cps} {w : Nat} (q : CBx s s' w) : ∀ j, j < w → s'.2 23 j = s.2 23 j := q.2.2.2.1
theorem CBx.o {s s' : cps} {w : Nat} (q : CBx s s' w) : ∀ o j, (o = 17 ∧ j < s.1 3) ∨ (o = 19 ∧ j + 1 < s.1 11) → s'.2 o j = s.2 o j := q.2.2.2.2.1
theorem CBx.h {s s' : cps} {w : Nat} (q : CBx s s' w) : ∀ j, j ≠ 6 * s.1 9 + 5 → s'.2 15 j = s.2 15 j := q.2.2.2.2.2.1
theorem CBx.u {s s' : cps} {w : Nat} (q : CBx s s' w) : ∀ k j, k < s.1 8 → s'.2 (24 + k) j = s.2 (24 + k) j := q.2.2.2.2.2.2
/-- the last statement is a return -/
def gvT : tr → Bool
  | .leaf _ => false
  | .branch n _ r => if ts r = 0 then decide (tK n = 11) else gvT r
def TBK (s s' : cps) (w i j dp : Nat) : Prop := (s'.1 0 = w) ∧ (s'.1 1 = j + 1) ∧ (s'.1 2 = dp - 1) ∧ (s'.2 16 7 = -1) ∧ (s'.1 4 ≤ s.1 4 + (j - i) ∧ s'.1 5 ≤ s.1 5 + (j - i) ∧ s'.1 6 ≤ s.1 6 + (j - i) ∧ s'.1 7 ≤ s.1 7 + (j - i)) ∧ (3 * s'.1 8 ≤ 3 * s.1 8 + (j - i)) ∧ (s'.1 11 = dp - 1)
theorem TBK.of {s s' : cps} {w i j dp : Nat} (q : (s'.1 0 = w) ∧ (s'.1 1 = j + 1) ∧ (s'.1 2 = dp - 1) ∧ (s'.2 16 7 = -1) ∧ (s'.1 4 ≤ s.1 4 + (j - i) ∧ s'.1 5 ≤ s.1 5 + (j - i) ∧ s'.1 6 ≤ s.1 6 + (j - i) ∧ s'.1 7 ≤ s.1 7 + (j - i)) ∧ (3 * s'.1 8 ≤ 3 * s.1 8 + (j - i)) ∧ (s'.1 11 = dp - 1)) : TBK s s' w i j dp := q
theorem TBK.w {s s' : cps} {w i j dp : Nat} (q : TBK s s' w i j dp) : s'.1 0 = w := q.1
theorem TBK.j {s s' : cps} {w i j dp : Nat} (q : TBK s s' w i j dp) : s'.1 1 = j + 1 := q.2.1
theorem TBK.d {s s' : cps} {w i j dp : Nat} (q : TBK s s' w i j dp) : s'.1 2 = dp - 1 := q.2.2.1
theorem TBK.f {s s' : cps} {w i j dp : Nat} (q : TBK s s' w i j dp) : s'.2 16 7 = -1 := q.2.2.2.1
theorem TBK.c {s s' : cps} {w i j dp : Nat} (q : TBK s s' w i j dp) : s'.1 4 ≤ s.1 4 + (j - i) ∧ s'.1 5 ≤ s.1 5 + (j - i) ∧ s'.1 6 ≤ s.1 6 + (j - i) ∧ s'.1 7 ≤ s.1 7 + (j - i) := q.2.2.2.2.1
theorem TBK.N {s s' : cps} {w i j dp : Nat} (q : TBK s s' w i j dp) : 3 * s'.1 8 ≤ 3 * s.1 8 + (j - i) := q.2.2.2.2.2.1
theorem TBK.b {s s' : cps} {w i j dp : Nat} (q : TBK s s' w i j dp) : s'.1 11 = dp - 1 := q.2.2.2.2.2.2
abbrev RBs (d : Nat) (h : mh_H) (B m : Nat) (sp : Nat → Nat → Bool) (f : Nat) (s : cps) (w : Nat) (L : cen) (b i dp j : Nat) (r : tr) : Prop := ∃ k s', PL d h B k s s' ∧ CBx s s' w ∧ k ≤ 30 * (j - i) + 1 ∧ TBK s s' w i j dp ∧ SCE s' m (L.drop b) ∧ stR sp s' (s.1 9) f (decide (dp = 1)) r (s.1 8) (s'.1 8) L b ∧ s'.2 15 (6 * s.1 9 + 5) = (if dp = 1 ∧ gvT r = true then Int32.ofNat (s'.1 8 - 1) else s.2 15 (6 * s.1 9 + 5))
def RBa (d : Nat) (h : mh_H) (B n m : Nat) (sp : Nat → Nat → Bool) (P : Nat → Nat) (f : Nat) (s : cps) (w : Nat) (L : cen) (b i dp : Nat) (r : pqr) : Prop := match r with
  | (j, none) => RTn d h B n P s i j 11
  | (j, some t) => RBs d h B m sp f s w L b i dp j t
abbrev HB1 (d : Nat) (h : mh_H) (B n m : Nat) (Bt : Nat → Int32) (K : Nat → Int32) (P U : Nat → Nat) (V : Nat → Int) (N f : Nat) : Prop := ∀ i dp s w L b, 3 * (m - i) + 1 ≤ f → CHt n m s L b i dp → TOP s w 149 0 → w ≤ 12 * dp → RTa d h B n m (spe Bt n P U) K P f s w L b i dp 9 (pgB K P V N f 1 dp i)
abbrev HB0 (d : Nat) (h : mh_H) (B n m : Nat) (Bt : Nat → Int32) (K : Nat → Int32) (P U : Nat → Nat) (V : Nat → Int) (N f : Nat) : Prop := ∀ i dp s w L b, 3 * (m - i) + 2 ≤ f → CHt n m s L b i dp → TOP s w 148 0 → w + 1 ≤ 12 * dp → RBa d h B n m (spe Bt n P U) P f s w L b i dp (pgB K P V N f 0 dp i)
section RWz
variable {d : Nat} {h : mh_H} {B n m : Nat} {Bt : Nat → Int32} {K : Nat → Int32} {P U : Nat → Nat} {V : Nat → Int} {s s1 s2 s' : cps} {L : cen} {w b i dp N f j c v k0 kf kf1 i1 : Nat} {x y : Int32}
theorem CSx_B (F : CSx s s1 w) (G : CBx s1 s2 w) : CBx s s2 w := by
  have a3 := F.a 3 (by omega)
  have a9 := F.a 9 (by omega)
  have a11 := F.a 11 (by omega)
  have hm := F.m
  have h7 := F.R.m.2.2.2
  exact CBx.of ⟨CRx_t F.R (CRx_w G.R h7), fun c hc => (G.a c hc).trans (F.a c (by omega)), Nat.le_trans F.m G.m, fun j hj => (G.g j hj).trans (F.g j hj), fun o j h => (G.o o j (by omega)).trans (F.o o j (by omega)), fun j h => (G.h j (by rw [a9]; exact h)).trans (F.h j h), fun k j hk => (G.u k j (by omega)).trans (F.u k j hk)⟩
theorem CSx_23 (hj : w ≤ j) : CSx s (u2 s 23 j x) w := by
  have e : ∀ o k, ¬ (o = 23 ∧ k = j) → (u2 s 23 j x).2 o k = s.2 o k := fun o k ho => by rw [u2_2, if_neg ho]
  exact CSx.of ⟨⟨⟨Nat.le_refl _, Nat.le_refl _, Nat.le_refl _, Nat.le_refl _⟩, fun k _ => e _ _ (by omega), fun o k _ _ _ => e _ _ (by omega), fun o k _ _ => e _ _ (by omega), fun h => absurd h (Nat.lt_irrefl _), fun _ => ⟨rfl, rfl⟩, fun o k _ _ => e _ _ (by omega)⟩, fun _ _ => rfl, Nat.le_refl _, fun _ _ => e _ _ (by omega), fun o k h => e _ _ (by omega), fun k _ => e _ _ (by omega), fun k l _ => e _ _ (by omega)⟩
theorem CSx_as' (F : CSx s s1 w) (hw : w ≤ s1.1 0) : CSx s (asS s1 x y) w := CSx_t F (CSx_t (CSx_23 hw) (CSx_1 (by decide)))
theorem RTn_S (p : PL d h B k0 s s1) (F : CSx s s1 w) (R : RTn d h B n P s1 i1 j kf1) (hk : k0 + (30 * (j - i1) + kf1) ≤ 30 * (j - i) + kf) : RTn d h B n P s i j kf := by
  obtain ⟨k1, s2, p2, F2, b2, f2, f3⟩ := R
  have a9 := F.a 9 (by omega)
  exact ⟨k0 + k1, s2, PL_t p p2, CVx.of ⟨F2.a.trans a9, fun y hy => (F2.h y (by rw [a9]; exact hy)).trans (F.h y (by omega)), ⟨Nat.le_trans F.m F2.m.1, F2.m.2⟩⟩, by omega, f2, f3⟩
theorem nxE_l {nn : Nat} {cs : tr} : L.length ≤ (nxE nn cs L).length ∧ ∀ b, (nxE nn cs L).drop (b + ((nxE nn cs L).length - L.length)) = L.drop b := by
  have key : nxE nn cs L = L ∨ ∃ e, nxE nn cs L = e :: L := by
    unfold nxE
    split
    · split
      · exact Or.inr ⟨_, rfl⟩
      · exact Or.inl rfl
    · split
      · split
        · exact Or.inr ⟨_, rfl⟩
        · exact Or.inl rfl
      · exact Or.inl rfl
  rcases key with k | ⟨e, k⟩
  · rw [k]
    exact ⟨Nat.le_refl _, fun b => by rw [Nat.sub_self, Nat.add_zero]⟩
  · rw [k]
    refine ⟨by show L.length ≤ L.length + 1; omega, fun b => ?_⟩
    rw [show (e :: L).length - L.length = 1 from by show L.length + 1 - L.length = 1; omega]
    rfl
theorem stN_11 {sp : Nat → Nat → Bool} {nf nn k k' : Nat} {rl : Bool} {cs : tr} {rec : tr → Nat → Nat → cen → Prop} (h : tK nn = 11) (w : stN sp s nf rec nn cs k k' L b rl) : k' = k + 1 := by
  obtain ⟨-, w⟩ := w
  rcases w with ⟨kk, -⟩ | ⟨kk, -⟩ | ⟨kk, -⟩ | ⟨kk, -⟩ | ⟨kk, -⟩ | ⟨kk, -⟩ | ⟨kk, -⟩ | ⟨kk, -⟩ | ⟨kk, x, e, -⟩
  · omega
  · omega
  · omega
  · omega
  · omega
  · omega
  · omega
  · omega
  · exact e
theorem pgB_z (hm : tkM K m) {t : tr} (hj : j < m) (e : pgB K P V N f 0 dp j = (c, some t)) : K j = 125 ↔ ts t = 0 := by
  cases f with
  | zero => cases e
  | succ f =>
    rw [pgB_0] at e
    by_cases cc : K j = 125
    · rw [if_pos cc] at e
      cases e
      exact ⟨fun _ => rfl, fun _ => cc⟩
    · rw [if_neg cc] at e
      have gd := (pgB_b (P := P) (V := V) (N := N) hm f 1 dp j (by decide) hj).1
      generalize pgB K P V N f 1 dp j = r1 at e gd
      rcases r1 with ⟨l, _ | tt⟩
      · cases e
      · obtain ⟨-, nn, cs, htt⟩ := (gd.2.2 tt rfl).1 rfl
        subst htt
        have e' : bnd (pgB K P V N f 0 dp l) (fun r k => (k, some (tA (tNd nn cs) r))) = (c, some t) := e
        generalize pgB K P V N f 0 dp l = r2 at e'
        rcases r2 with ⟨l2, _ | rr⟩
        · cases e'
        · have e2 : (l2, some (Lean.RArray.branch nn cs rr)) = (c, some t) := e'
          cases e2
          exact ⟨fun z => absurd z cc, fun z => by rw [ts_b] at z; omega⟩
theorem x_close (bb : CPB h B n) (t : CTK h B n m Bt K P U V) (H : CHt n m s L b i dp) (T : TOP s w 148 0) (hw : w + 1 ≤ 12 * dp) (c125 : K i = 125) : RBs (d + 10) h B m (spe Bt n P U) f s w L b i dp i (.leaf ()) := by
  have hb := H.j
  have hm := t.m
  have hn := bb.n
  obtain ⟨e1, e2, e3⟩ := H.e
  obtain ⟨l1, l2⟩ := H.l
  obtain ⟨B1, B2⟩ := H.B
  have hd := H.d
  have gw : w < gL n := gL_w t hb e3 e2 (by omega)
  have e : (u1 s 0 w).1 1 = i := H.i
  have ed : (u1 s 0 w).1 2 = dp := H.d
  have ld : (L.drop b).length = L.length - b := List.length_drop
  have E1 : SCE (u1 s 0 w) m (L.take b ++ L.drop b) := by rw [List.take_append_drop]; exact SCE_1 H.E (by decide)
  obtain ⟨⟨s1, s2⟩, -⟩ := SCE_s E1
  rw [ld] at s1 s2
  have E2 : SCE (u1 (u1 (u1 s 0 w) 1 (i + 1)) 2 (dp - 1)) m (L.take b ++ L.drop b) := SCE_1 (SCE_1 E1 (by decide)) (by decide)
  have S2 := (SCE_s E2).2
  rw [ld] at S2
  have z := c_56d (d := d + 3) (s := u1 s 0 w) (w := Int32.ofNat 0) bb t (k0 := L.length - b) (by rw [e]; exact hb) (by rw [e]; exact c125) (by rw [ed]; exact e1) (by show 1 ≤ s.1 11 ∧ s.1 11 ≤ 62; omega) (by show s.2 19 (s.1 11 - 1) = _; rw [B1]; exact B2) (by show L.length - b ≤ s.1 10; rw [H.E.c]; omega) (by show s.1 10 ≤ _; rw [H.E.c]; omega) s1 s2
  rw [e, ed] at z
  have p1 := it_56 (d := d + 9) bb T gw (by decide) z
  obtain ⟨s3, hs3⟩ : ∃ s3, s3 = shS (u1 (u1 (u1 s 0 w) 1 (i + 1)) 2 (dp - 1)) (L.length - b) := ⟨_, rfl⟩
  rw [← hs3] at p1 S2
  have r2 : s3.2 = s.2 := by rw [hs3]; rfl
  have rc : ∀ c, c ≠ 0 → c ≠ 1 → c ≠ 2 → c ≠ 10 → c ≠ 11 → c ≠ 12 → c ≠ 13 → s3.1 c = s.1 c := fun c h0 h1 h2 h10 h11 h12 h13 => by
    rw [hs3]
    unfold shS
    rw [u1_1, if_neg h10, u1_1, if_neg h13, u1_1, if_neg h12, u1_1, if_neg h11, u1_1, if_neg h2, u1_1, if_neg h1, u1_1, if_neg h0]
  have q0 : s3.1 0 = w := by rw [hs3]; rfl
  have q1 : s3.1 1 = i + 1 := by rw [hs3]; rfl
  have q2 : s3.1 2 = dp - 1 := by rw [hs3]; rfl
  have q11 : s3.1 11 = dp - 1 := by rw [hs3]; show s.1 11 - 1 = _; omega
  clear hs3
  have q3 := rc 3 (by decide) (by decide) (by decide) (by decide) (by decide) (by decide) (by decide)
  have q4 := rc 4 (by decide) (by decide) (by decide) (by decide) (by decide) (by decide) (by decide)
  have q5 := rc 5 (by decide) (by decide) (by decide) (by decide) (by decide) (by decide) (by decide)
  have q6 := rc 6 (by decide) (by decide) (by decide) (by decide) (by decide) (by decide) (by decide)
  have q7 := rc 7 (by decide) (by decide) (by decide) (by decide) (by decide) (by decide) (by decide)
  have q8 := rc 8 (by decide) (by decide) (by decide) (by decide) (by decide) (by decide) (by decide)
  have q9 := rc 9 (by decide) (by decide) (by decide) (by decide) (by decide) (by decide) (by decide)
  refine ⟨1, s3, p1, CBx.of ⟨⟨⟨by omega, by omega, by omega, by omega⟩, fun _ _ => by rw [r2], fun _ _ _ _ _ => by rw [r2], fun _ _ _ _ => by rw [r2], fun hh => absurd hh (by omega), fun _ => ⟨q4, q5⟩, fun _ _ _ _ => by rw [r2]⟩, fun c hc => by rcases hc with hc | hc <;> rw [hc] <;> assumption, by omega, fun _ _ => by rw [r2], fun _ _ _ => by rw [r2], fun _ _ => by rw [r2], fun _ _ _ => by rw [r2]⟩, by omega, TBK.of ⟨q0, q1, q2, by rw [r2]; exact T.f, ⟨by omega, by omega, by omega, by omega⟩, by omega, q11⟩, S2, ?_, ?_⟩
  · cases f with
    | zero => exact q8
    | succ f => exact q8
  · rw [r2, if_neg (fun z => by cases z.2)]
end RWz
