set_option maxRecDepth 100000
/-! the class's parser over rows of statements: a row, a BLOCK -/
def TKK (s s' : cps) (w i j dp : Nat) : Prop := (s'.1 0 = w) ∧ (s'.1 1 = j) ∧ (s'.1 2 = dp) ∧ (s'.2 16 7 = -1) ∧ (s'.1 4 ≤ s.1 4 + (j - i) ∧ s'.1 5 ≤ s.1 5 + (j - i) ∧ s'.1 6 ≤ s.1 6 + (j - i) ∧ s'.1 7 ≤ s.1 7 + (j - i)) ∧ (3 * s'.1 8 ≤ 3 * s.1 8 + (j - i))
theorem TKK.of {s s' : cps} {w i j dp : Nat} (q : (s'.1 0 = w) ∧ (s'.1 1 = j) ∧ (s'.1 2 = dp) ∧ (s'.2 16 7 = -1) ∧ (s'.1 4 ≤ s.1 4 + (j - i) ∧ s'.1 5 ≤ s.1 5 + (j - i) ∧ s'.1 6 ≤ s.1 6 + (j - i) ∧ s'.1 7 ≤ s.1 7 + (j - i)) ∧ (3 * s'.1 8 ≤ 3 * s.1 8 + (j - i))) : TKK s s' w i j dp := q
theorem TKK.w {s s' : cps} {w i j dp : Nat} (q : TKK s s' w i j dp) : s'.1 0 = w := q.1
theorem TKK.j {s s' : cps} {w i j dp : Nat} (q : TKK s s' w i j dp) : s'.1 1 = j := q.2.1
theorem TKK.d {s s' : cps} {w i j dp : Nat} (q : TKK s s' w i j dp) : s'.1 2 = dp := q.2.2.1
theorem TKK.f {s s' : cps} {w i j dp : Nat} (q : TKK s s' w i j dp) : s'.2 16 7 = -1 := q.2.2.2.1
theorem TKK.c {s s' : cps} {w i j dp : Nat} (q : TKK s s' w i j dp) : s'.1 4 ≤ s.1 4 + (j - i) ∧ s'.1 5 ≤ s.1 5 + (j - i) ∧ s'.1 6 ≤ s.1 6 + (j - i) ∧ s'.1 7 ≤ s.1 7 + (j - i) := q.2.2.2.2.1
theorem TKK.N {s s' : cps} {w i j dp : Nat} (q : TKK s s' w i j dp) : 3 * s'.1 8 ≤ 3 * s.1 8 + (j - i) := q.2.2.2.2.2
/-- a BLOCK in a statement -/
abbrev RLs (d : Nat) (h : mh_H) (B m : Nat) (sp : Nat → Nat → Bool) (f : Nat) (s : cps) (w : Nat) (L : cen) (i dp j : Nat) (r : tr) : Prop := ∃ n bs, r = tNd n bs ∧ ∃ k s', PL d h B k s s' ∧ CSx s s' w ∧ k + 20 ≤ 30 * (j - i) ∧ TKK s s' w i j dp ∧ SCE s' m L ∧ stR sp s' (s.1 9) f false bs (s.1 8) (s'.1 8) L 0 ∧ s'.2 15 (6 * s.1 9 + 5) = s.2 15 (6 * s.1 9 + 5)
def RLa (d : Nat) (h : mh_H) (B n m : Nat) (sp : Nat → Nat → Bool) (P : Nat → Nat) (f : Nat) (s : cps) (w : Nat) (L : cen) (i dp : Nat) (r : pqr) : Prop := match r with
  | (j, none) => RTn d h B n P s i j 12
  | (j, some t) => RLs d h B m sp f s w L i dp j t
/-- what stands before a BLOCK in a statement: as before a statement, one deeper -/
def CHb (n m : Nat) (s : cps) (L : cen) (i dp : Nat) : Prop := (s.1 1 = i) ∧ (i < m) ∧ (s.1 2 = dp) ∧ (1 ≤ dp ∧ dp ≤ 60 ∧ dp + 1 ≤ i) ∧ (SCE s m L) ∧ (2 * L.length ≤ i) ∧ (s.1 11 = dp) ∧ (s.1 4 ≤ i ∧ s.1 5 ≤ i ∧ s.1 6 ≤ i ∧ s.1 7 ≤ i) ∧ (3 * s.1 8 ≤ i) ∧ (s.1 3 ≤ dp) ∧ (9 * s.1 9 ≤ n) ∧ (∀ f, f < s.1 9 → nmH s f < m ∧ s.2 15 (6 * f) = Int32.ofNat (nmH s f))
theorem CHb.of {n m : Nat} {s : cps} {L : cen} {i dp : Nat} (q : (s.1 1 = i) ∧ (i < m) ∧ (s.1 2 = dp) ∧ (1 ≤ dp ∧ dp ≤ 60 ∧ dp + 1 ≤ i) ∧ (SCE s m L) ∧ (2 * L.length ≤ i) ∧ (s.1 11 = dp) ∧ (s.1 4 ≤ i ∧ s.1 5 ≤ i ∧ s.1 6 ≤ i ∧ s.1 7 ≤ i) ∧ (3 * s.1 8 ≤ i) ∧ (s.1 3 ≤ dp) ∧ (9 * s.1 9 ≤ n) ∧ (∀ f, f < s.1 9 → nmH s f < m ∧ s.2 15 (6 * f) = Int32.ofNat (nmH s f))) : CHb n m s L i dp := q
theorem CHb.i {n m : Nat} {s : cps} {L : cen} {i dp : Nat} (q : CHb n m s L i dp) : s.1 1 = i := q.1
theorem CHb.j {n m : Nat} {s : cps} {L : cen} {i dp : Nat} (q : CHb n m s L i dp) : i < m := q.2.1
theorem CHb.d {n m : Nat} {s : cps} {L : cen} {i dp : Nat} (q : CHb n m s L i dp) : s.1 2 = dp := q.2.2.1
theorem CHb.e {n m : Nat} {s : cps} {L : cen} {i dp : Nat} (q : CHb n m s L i dp) : 1 ≤ dp ∧ dp ≤ 60 ∧ dp + 1 ≤ i := q.2.2.2.1
theorem CHb.E {n m : Nat} {s : cps} {L : cen} {i dp : Nat} (q : CHb n m s L i dp) : SCE s m L := q.2.2.2.2.1
theorem CHb.l {n m : Nat} {s : cps} {L : cen} {i dp : Nat} (q : CHb n m s L i dp) : 2 * L.length ≤ i := q.2.2.2.2.2.1
theorem CHb.B {n m : Nat} {s : cps} {L : cen} {i dp : Nat} (q : CHb n m s L i dp) : s.1 11 = dp := q.2.2.2.2.2.2.1
theorem CHb.c {n m : Nat} {s : cps} {L : cen} {i dp : Nat} (q : CHb n m s L i dp) : s.1 4 ≤ i ∧ s.1 5 ≤ i ∧ s.1 6 ≤ i ∧ s.1 7 ≤ i := q.2.2.2.2.2.2.2.1
theorem CHb.N {n m : Nat} {s : cps} {L : cen} {i dp : Nat} (q : CHb n m s L i dp) : 3 * s.1 8 ≤ i := q.2.2.2.2.2.2.2.2.1
theorem CHb.o {n m : Nat} {s : cps} {L : cen} {i dp : Nat} (q : CHb n m s L i dp) : s.1 3 ≤ dp := q.2.2.2.2.2.2.2.2.2.1
theorem CHb.F {n m : Nat} {s : cps} {L : cen} {i dp : Nat} (q : CHb n m s L i dp) : 9 * s.1 9 ≤ n := q.2.2.2.2.2.2.2.2.2.2.1
theorem CHb.H {n m : Nat} {s : cps} {L : cen} {i dp : Nat} (q : CHb n m s L i dp) : ∀ f, f < s.1 9 → nmH s f < m ∧ s.2 15 (6 * f) = Int32.ofNat (nmH s f) := q.2.2.2.2.2.2.2.2.2.2.2
abbrev HB2 (d : Nat) (h : mh_H) (B n m : Nat) (Bt : Nat → Int32) (K : Nat → Int32) (P U : Nat → Nat) (V : Nat → Int) (N f : Nat) : Prop := ∀ i dp s w L, 3 * (m - i) ≤ f → CHb n m s L i dp → TOP s w 147 0 → w ≤ 12 * dp + 2 → RLa d h B n m (spe Bt n P U) P f s w L i dp (pgB K P V N f 2 (dp + 1) i)
section RXz
variable {d : Nat} {h : mh_H} {B n m : Nat} {Bt : Nat → Int32} {K : Nat → Int32} {P U : Nat → Nat} {V : Nat → Int} {s s1 s2 s' : cps} {L : cen} {w b i dp N f j c v k0 kf kf1 i1 : Nat} {x y : Int32}
theorem x_rows (bb : CPB h B n) (t : CTK h B n m Bt K P U V) (h1 : HB1 (d + 10) h B n m Bt K P U V N f) (h0 : HB0 (d + 10) h B n m Bt K P U V N f) : HB0 (d + 10) h B n m Bt K P U V N (f + 1) := by
  intro i dp s w L b hf H T hw
  have hb := H.j
  have hm := t.m
  have hn := bb.n
  obtain ⟨e1, e2, e3⟩ := H.e
  obtain ⟨l1, l2⟩ := H.l
  obtain ⟨B1, B2⟩ := H.B
  obtain ⟨c4, c5, c6, c7⟩ := H.c
  have hN3 := H.N
  have ho := H.o
  rw [pgB_0]
  by_cases c125 : K i = 125
  · rw [if_pos c125]
    exact x_close bb t H T hw c125
  rw [if_neg c125]
  have gw : w < gL n := gL_w t hb e3 e2 (by omega)
  have gw2 : w + 2 ≤ gL n := gL_w (w := w + 1) t hb e3 e2 (by omega)
  have e : (u1 s 0 w).1 1 = i := H.i
  have p1 := it_56 (d := d + 9) bb T gw (by decide) (c_56e (d := d + 3) (s := u1 s 0 w) (w := Int32.ofNat 0) bb t (by rw [e]; exact hb) (by rw [e]; exact c125) gw2)
  obtain ⟨s1, hs1⟩ : ∃ s1, s1 = asS (asS (u1 s 0 w) 148 0) 149 0 := ⟨_, rfl⟩
  rw [← hs1] at p1
  have F1 : CSx s s1 w := by
    rw [hs1]
    exact CSx_as' (CSx_as' (CSx_1 (by decide)) (Nat.le_refl _)) (by show w ≤ w + 1; omega)
  have H1 : CHt n m s1 L b i dp := by
    rw [hs1]
    exact CHt.of ⟨H.i, H.j, H.d, H.e, SCE_as (SCE_as (SCE_1 H.E (by decide))), H.l, H.B, H.c, H.N, H.o, H.F, H.H⟩
  have T1 : TOP s1 (w + 1) 149 0 := by
    rw [hs1]
    exact TOP.of ⟨rfl, T.f, by rw [as_23, if_pos (by show w + 1 = w + 1; rfl)]; rfl, ⟨by decide, by decide⟩⟩
  have g0 : s1.2 23 w = glI (Int32.ofNat 148) (Int32.ofNat 0) := by
    rw [hs1, as_23, if_neg (by show ¬ w = w + 1; omega), as_23, if_pos (by show w = w; rfl)]
    rfl
  have o4 : s1.1 4 = s.1 4 := by rw [hs1]; rfl
  have o5 : s1.1 5 = s.1 5 := by rw [hs1]; rfl
  have o6 : s1.1 6 = s.1 6 := by rw [hs1]; rfl
  have o7 : s1.1 7 = s.1 7 := by rw [hs1]; rfl
  have o8 : s1.1 8 = s.1 8 := by rw [hs1]; rfl
  have o9 : s1.1 9 = s.1 9 := by rw [hs1]; rfl
  have o11 : s1.1 11 = s.1 11 := by rw [hs1]; rfl
  have o3 : s1.1 3 = s.1 3 := by rw [hs1]; rfl
  have o15 : ∀ y, s1.2 15 y = s.2 15 y := fun y => by rw [hs1]; rfl
  have o19 : ∀ y, s1.2 19 y = s.2 19 y := fun y => by rw [hs1]; rfl
  clear hs1
  have R := h1 i dp s1 (w + 1) L b (by omega) H1 T1 hw
  have gd := (pgB_b (P := P) (V := V) (N := N) t.M f 1 dp i (by decide) hb).1
  generalize pgB K P V N f 1 dp i = r1 at R gd ⊢
  rcases r1 with ⟨j, _ | tt⟩
  · exact RTn_S p1 F1 R (by omega)
  have gm' : j < m := gd.2.1
  have gj : i < j := ((gd.2.2 tt rfl).1 rfl).1
  obtain ⟨nn, cs, htt, k2, s2, p2, F2, bk, O2, E2, hl2, hst, h15⟩ := R
  subst htt
  obtain ⟨nl1, nl2⟩ := nxE_l (L := L) (nn := nn) (cs := cs)
  obtain ⟨u4, u5, u6, u7⟩ := O2.c
  have u8 := O2.N
  have F2' : CSx s1 s2 w := CSx_w F2 (by omega)
  have a3 := F2.a 3 (by omega)
  have a9 := F2.a 9 (by omega)
  have a11 := F2.a 11 (by omega)
  have T2 : TOP s2 w 148 0 := TOP.of ⟨O2.w, O2.f, (F2.g w (by omega)).trans g0, ⟨by decide, by decide⟩⟩
  have h2H : ∀ g, g < s2.1 9 → nmH s2 g < m ∧ s2.2 15 (6 * g) = Int32.ofNat (nmH s2 g) := fun g hg => by
    have e15 : s2.2 15 (6 * g) = s.2 15 (6 * g) := (F2.h (6 * g) (by omega)).trans (o15 _)
    have := H.H g (by omega)
    unfold nmH at this ⊢
    rw [e15]
    exact this
  have H2 : CHt n m s2 (nxE nn cs L) (b + ((nxE nn cs L).length - L.length)) j dp := CHt.of ⟨O2.j, gm', O2.d, ⟨e1, e2, by omega⟩, E2, ⟨by omega, by omega⟩, ⟨by omega, by
    rw [F2.o 19 (dp - 1) (Or.inr ⟨rfl, by omega⟩), o19, B2]
    congr 1
    omega⟩, ⟨by omega, by omega, by omega, by omega⟩, by omega, by omega, by rw [a9, o9]; exact H.F, h2H⟩
  have R2 := h0 j dp s2 w _ _ (by omega) H2 T2 hw
  have gd2 := (pgB_b (P := P) (V := V) (N := N) t.M f 0 dp j (by decide) gm').1
  have key : ∀ l t, pgB K P V N f 0 dp j = (l, some t) → (K j = 125 ↔ ts t = 0) := fun l t e => pgB_z ‹CTK h B n m Bt K P U V›.M gm' e
  show RBa (d + 10) h B n m (spe Bt n P U) P (f + 1) s w L b i dp (bnd (pgB K P V N f 0 dp j) fun r k => (k, some (tA (tNd nn cs) r)))
  generalize pgB K P V N f 0 dp j = r2 at R2 gd2 key ⊢
  rcases r2 with ⟨l, _ | rr⟩
  · have gl : j ≤ l := gd2.1
    exact RTn_S (PL_t p1 p2) (CSx_t F1 F2') R2 (by omega)
  have gl : j ≤ l := gd2.1
  have kz := key l rr rfl
  obtain ⟨k3, s3, p3, F3, bk3, O3, E3, hst3, h153⟩ := R2
  obtain ⟨v4, v5, v6, v7⟩ := O3.c
  have v8 := O3.N
  have m3 := F3.m
  have m2 := F2.m
  rw [nl2 b] at E3
  rw [a9, o9] at hst3 h153
  rw [o9] at hst h15
  rw [o8] at hst h15
  rw [o15] at h15
  have le3 := stR_le _ _ _ _ _ _ _ hst3
  refine ⟨1 + k2 + k3, s3, PL_t (PL_t p1 p2) p3, CSx_B (CSx_t F1 F2') F3, by omega, TBK.of ⟨O3.w, O3.j, O3.d, O3.f, ⟨by omega, by omega, by omega, by omega⟩, by omega, O3.b⟩, E3, ?_, ?_⟩
  · refine ⟨s2.1 8, ?_, hst3⟩
    have e7 : (decide (dp = 1) && decide (ts rr = 0)) = decide (dp = 1 ∧ K j = 125) := by
      rw [Bool.decide_and, decide_eq_decide.mpr kz]
    rw [e7]
    exact stN_g F3.R F3.u (fun y hy => F3.h y (by omega)) (fun t x y M z => stR_le f false t x y M 0 z) (fun t x y M hy z => stR_g F3.R F3.u (fun y hy => F3.h y (by omega)) f false t x y M 0 hy z) (Nat.le_refl _) hst
  · rw [h153, h15]
    show _ = (if dp = 1 ∧ (if ts rr = 0 then decide (tK nn = 11) else gvT rr) = true then _ else _)
    by_cases cz : ts rr = 0
    · obtain ⟨u, hu⟩ := ts_z cz
      subst hu
      rw [if_neg (fun z => by cases z.2), if_pos cz]
      have c1 : K j = 125 := kz.mpr rfl
      by_cases ck : tK nn = 11
      · have e11 := stN_11 ck hst
        have e38 : s3.1 8 = s2.1 8 := by
          cases f with
          | zero => exact hst3
          | succ f => exact hst3
        by_cases cd : dp = 1
        · rw [if_pos ⟨ck, cd, c1⟩, if_pos ⟨cd, decide_eq_true ck⟩]
          congr 1
          omega
        · rw [if_neg (fun z => cd z.2.1), if_neg (fun z => cd z.1)]
      · rw [if_neg (fun z => ck z.1), if_neg (fun z => ck (of_decide_eq_true z.2))]
    · have c1 : ¬ K j = 125 := fun z => cz (kz.mp z)
      have e9 : (if tK nn = 11 ∧ dp = 1 ∧ K j = 125 then Int32.ofNat (s.1 8) else s.2 15 (6 * s.1 9 + 5)) = s.2 15 (6 * s.1 9 + 5) := if_neg (fun z => c1 z.2.2)
      rw [if_neg cz, e9]
theorem stR_m {sp : Nat → Nat → Bool} {nf : Nat} : ∀ f fb t k k' L b, k' ≤ s.1 8 → stR sp s nf f fb t k k' L b → stR sp s nf (f + 1) fb t k k' L b := by
  intro f
  induction f with
  | zero =>
    intro fb t k k' L b hk w
    cases t with
    | leaf _ => exact w
    | branch n cs r => exact absurd w (fun z => z)
  | succ f ih =>
    intro fb t k k' L b hk w
    cases t with
    | leaf _ => exact w
    | branch n cs r =>
      obtain ⟨k1, w1, w2⟩ := w
      have h2 := stR_le f fb r k1 k' _ _ w2
      exact ⟨k1, stN_g (CSx_id (w := 0)).R (fun _ _ _ => rfl) (fun _ _ => rfl) (fun t x y M z => stR_le f false t x y M 0 z) (fun t x y M hy z => ih false t x y M 0 hy z) (by omega) w1, ih fb r k1 k' _ _ hk w2⟩
theorem x_blk (bb : CPB h B n) (t : CTK h B n m Bt K P U V) (h0 : HB0 (d + 10) h B n m Bt K P U V N f) : HB2 (d + 10) h B n m Bt K P U V N (f + 1) := by
  intro i dp s w L hf H T hw
  have hb := H.j
  have hm := t.m
  have hn := bb.n
  obtain ⟨e1, e2, e3⟩ := H.e
  have l2 := H.l
  have B1 := H.B
  obtain ⟨c4, c5, c6, c7⟩ := H.c
  have hN3 := H.N
  have ho := H.o
  have gw : w < gL n := gL_w t hb (show dp ≤ i by omega) e2 (by omega)
  have gw2 : w + 2 ≤ gL n := gL_w (w := w + 1) t hb (show dp ≤ i by omega) e2 (by omega)
  have e : (u1 s 0 w).1 1 = i := H.i
  have ed : (u1 s 0 w).1 2 = dp := H.d
  rw [pgB_2]
  by_cases c60 : 60 < dp + 1
  · rw [if_pos c60]
    have p1 := it_56 (d := d + 9) bb T gw (by decide) (c_56c (d := d + 3) (s := u1 s 0 w) (w := Int32.ofNat 0) bb t (by rw [e]; exact hb) T.f (by rw [ed]; omega))
    rw [e] at p1
    exact ⟨1, _, p1, CVx_W (CSx_1 (w := w) (c := 0) (v := w) (by decide)) CWx_f (by show s.1 8 ≤ _; omega), by omega, rfl, by show s.1 6 ≤ _; omega⟩
  rw [if_neg c60]
  have p1 := it_56 (d := d + 9) bb T gw (by decide) (c_56a (d := d + 3) (s := u1 s 0 w) bb t (by rw [e]; exact hb) (by rw [ed]; omega) (by show s.1 11 < 62; omega) (by show w + 1 ≤ gL n; omega))
  rw [ed] at p1
  obtain ⟨sa, hsa⟩ : ∃ sa, sa = asS (obS (u1 (u1 s 0 w) 2 (dp + 1))) 148 0 := ⟨_, rfl⟩
  rw [← hsa] at p1
  have af : sa.2 16 7 = -1 := by rw [hsa]; exact T.f
  have a0 : sa.1 0 = w + 1 := by rw [hsa]; rfl
  have a1 : sa.1 1 = i := by rw [hsa]; exact H.i
  have a2 : sa.1 2 = dp + 1 := by rw [hsa]; rfl
  have a3 : sa.1 3 = s.1 3 := by rw [hsa]; rfl
  have a4 : sa.1 4 = s.1 4 := by rw [hsa]; rfl
  have a5 : sa.1 5 = s.1 5 := by rw [hsa]; rfl
  have a6 : sa.1 6 = s.1 6 := by rw [hsa]; rfl
  have a7 : sa.1 7 = s.1 7 := by rw [hsa]; rfl
  have a8 : sa.1 8 = s.1 8 := by rw [hsa]; rfl
  have a9 : sa.1 9 = s.1 9 := by rw [hsa]; rfl
  have a10 : sa.1 10 = s.1 10 := by rw [hsa]; rfl
  have a11 : sa.1 11 = dp + 1 := by rw [hsa]; show s.1 11 + 1 = _; omega
  have a12 : sa.1 12 = s.1 12 := by rw [hsa]; rfl
  have a13 : sa.1 13 = s.1 13 := by rw [hsa]; rfl
  have row : ∀ z k, ¬ (z = 23 ∧ k = w) → ¬ (z = 19 ∧ k = dp) → sa.2 z k = s.2 z k := fun z k h1 h2 => by
    rw [hsa]
    show (if z = 23 ∧ k = w then _ else if z = 19 ∧ k = s.1 11 then _ else s.2 z k) = _
    rw [if_neg h1, if_neg (by rw [B1]; exact h2)]
  have r19 : sa.2 19 dp = Int32.ofNat L.length := by
    have as2 : ∀ (S : cps) g y o k, o ≠ 23 → (asS S g y).2 o k = S.2 o k := fun S g y o k ho => by unfold asS; rw [u1_2, u2_2, if_neg (fun z => ho z.1)]
    rw [hsa, as2 _ _ _ _ _ (by decide)]
    unfold obS
    rw [u1_2, u2_2, if_pos ⟨rfl, by show dp = s.1 11; omega⟩]
    show Int32.ofNat (s.1 10) = _
    rw [H.E.c]
  have r23 : sa.2 23 w = glI (Int32.ofNat 148) (Int32.ofNat 0) := by
    rw [hsa, as_23, if_pos (by show w = w; rfl)]
    rfl
  clear hsa
  by_cases c123 : ¬ K i = 123
  · have e7 : ∀ X, tak K 123 i X = (i, none) := fun X => if_neg c123
    rw [e7]
    rw [tkS_n af (by rw [a1]; exact c123), a1] at p1
    exact ⟨1, _, p1, CVx.of ⟨a9, fun y hy => by rw [u2_2, if_neg (by omega)]; exact row 15 y (by omega) (by omega), ⟨by show s.1 8 ≤ sa.1 8; omega, by show sa.1 8 ≤ _; omega⟩⟩, by omega, rfl, by show sa.1 6 ≤ _; omega⟩
  have c123 : K i = 123 := Classical.not_not.mp c123
  have hi1 : i + 1 < m := tkM_s t.M hb c123 (by decide) (by decide)
  have e7 : ∀ X, tak K 123 i X = X := fun X => if_pos c123
  rw [e7]
  rw [tkS_p af (by rw [a1]; exact c123), a1] at p1
  obtain ⟨s1, hs1⟩ : ∃ s1, s1 = u1 sa 1 (i + 1) := ⟨_, rfl⟩
  rw [← hs1] at p1
  have q1 : s1.1 1 = i + 1 := by rw [hs1]; rfl
  have qc : ∀ c, c ≠ 1 → s1.1 c = sa.1 c := fun c hc => by rw [hs1]; exact if_neg hc
  have qr : s1.2 = sa.2 := by rw [hs1]; rfl
  clear hs1
  have q0 := qc 0 (by decide)
  have q2 := qc 2 (by decide)
  have q3 := qc 3 (by decide)
  have q4 := qc 4 (by decide)
  have q5 := qc 5 (by decide)
  have q6 := qc 6 (by decide)
  have q7 := qc 7 (by decide)
  have q8 := qc 8 (by decide)
  have q9 := qc 9 (by decide)
  have q10 := qc 10 (by decide)
  have q11 := qc 11 (by decide)
  have q12 := qc 12 (by decide)
  have q13 := qc 13 (by decide)
  have rw1 : ∀ z k, ¬ (z = 23 ∧ k = w) → ¬ (z = 19 ∧ k = dp) → s1.2 z k = s.2 z k := fun z k h1 h2 => by rw [qr]; exact row z k h1 h2
  have H1 : CHt n m s1 L 0 (i + 1) (dp + 1) := CHt.of ⟨q1, hi1, by omega, ⟨by omega, by omega, by omega⟩, SCE_g H.E (by omega) (by omega) (by omega) (fun z k h1 h2 h3 => rw1 z k (by omega) (by omega)), ⟨Nat.zero_le _, by omega⟩, ⟨by omega, by rw [qr]; exact r19⟩, ⟨by omega, by omega, by omega, by omega⟩, by omega, by omega, by rw [q9, a9]; exact H.F, fun g hg => by
    have e15 : s1.2 15 (6 * g) = s.2 15 (6 * g) := rw1 _ _ (by omega) (by omega)
    have := H.H g (by omega)
    unfold nmH at this ⊢
    rw [e15]
    exact this⟩
  have T1 : TOP s1 w 148 0 := TOP.of ⟨by omega, by rw [qr]; exact af, by rw [qr]; exact r23, ⟨by decide, by decide⟩⟩
  have R := h0 (i + 1) (dp + 1) s1 w L 0 (by omega) H1 T1 (by omega)
  have gd := (pgB_b (P := P) (V := V) (N := N) t.M f 0 (dp + 1) (i + 1) (by decide) hi1).1
  generalize pgB K P V N f 0 (dp + 1) (i + 1) = r1 at R gd ⊢
  rcases r1 with ⟨j, _ | rr⟩
  · have gj : i + 1 ≤ j := gd.1
    obtain ⟨k2, s2, p2, F2, b2, f2, f3⟩ := R
    have fa := F2.a
    obtain ⟨fm1, fm2⟩ := F2.m
    exact ⟨1 + k2, s2, PL_t p1 p2, CVx.of ⟨by omega, fun y hy => (F2.h y (by omega)).trans (rw1 15 y (by omega) (by omega)), ⟨by omega, fm2⟩⟩, by omega, f2, f3⟩
  have gj : i + 1 ≤ j := gd.1
  obtain ⟨k2, s2, p2, F2, b2, O2, E2, st2, h15⟩ := R
  obtain ⟨v4, v5, v6, v7⟩ := O2.c
  have v8 := O2.N
  have vb := O2.b
  have vd := O2.d
  have fm := F2.m
  have f3 := F2.a 3 (by omega)
  have f9 := F2.a 9 (by omega)
  rw [q9, a9, q8, a8, decide_eq_false (by omega)] at st2
  rw [q9, a9, if_neg (fun z => by omega), rw1 15 _ (by omega) (by omega)] at h15
  have CR1 : CRx s s1 (s.1 7) := ⟨⟨by omega, by omega, by omega, by omega⟩, fun k _ => rw1 _ _ (by omega) (by omega), fun z k _ _ _ => rw1 _ _ (by omega) (by omega), fun z k _ _ => rw1 _ _ (by omega) (by omega), fun hh => absurd hh (by omega), fun _ => ⟨by omega, by omega⟩, fun z k _ _ => rw1 _ _ (by omega) (by omega)⟩
  refine ⟨tE 2 (P i) 0, rr, rfl, 1 + k2, s2, PL_t p1 p2, CSx.of ⟨CRx_t CR1 (CRx_w F2.R (by omega)), fun c hc => ?_, by omega, fun y hy => (F2.g y hy).trans (rw1 _ _ (by omega) (by omega)), fun z y hz => (F2.o z y (by omega)).trans (rw1 _ _ (by omega) (by omega)), fun y hy => (F2.h y (by rw [q9, a9]; exact hy)).trans (rw1 _ _ (by omega) (by omega)), fun k y hk => (F2.u k y (by omega)).trans (rw1 _ _ (by omega) (by omega))⟩, by omega, TKK.of ⟨O2.w, O2.j, by omega, O2.f, ⟨by omega, by omega, by omega, by omega⟩, by omega⟩, E2, stR_m f false rr _ _ _ _ (Nat.le_refl _) st2, h15⟩
  rcases hc with hc | hc | hc
  · subst hc
    omega
  · subst hc
    omega
  · subst hc
    omega
end RXz
