set_option maxRecDepth 100000
/-! the class's parser over functions: all parameters -/
section PBz
variable {d : Nat} {h : mh_H} {B n m : Nat} {Bt : Nat → Int32} {K : Nat → Int32} {P U : Nat → Nat} {V : Nat → Int} {s s1 s2 s' : cps} {L : cen} {w b i dp N f j : Nat}
theorem pgM_s : pgM K P (f + 1) i = if K i = 44 then tak K 2 (i + 1) (bnd (pgM K P f (i + 2)) fun r k => (k, some (.branch (tE 13 (P (i + 1)) (i + 1)) (.leaf ()) r))) else tak K 41 i (i + 1, some (.leaf ())) := rfl
/-- not a NAME -/
theorem x_p0 (bb : CPB h B n) (t : CTK h B n m Bt K P U V) (hi : s.1 1 = i) (hb : i < m) (T : TOP s w 144 0) (hw : w ≤ 20) (c2 : ¬ K i = 2) : PL (d + 10) h B 1 s (u2 (u1 s 0 w) 16 7 (Int32.ofNat (P i))) := by
  have gw : w < gL n := gL_w (dp := 0) t hb (Nat.zero_le _) (by decide) (by omega)
  have e : (u1 s 0 w).1 1 = i := hi
  have p1 := it_55 (d := d + 9) bb T gw (by decide) (c_55h (d := d + 3) (s := u1 s 0 w) bb t (by rw [e]; exact hb) (by rw [e]; exact c2))
  rw [tkS_n (s := u1 s 0 w) T.f (by rw [e]; exact c2), e] at p1
  exact p1
theorem x_pm (bb : CPB h B n) (t : CTK h B n m Bt K P U V) (hw : w ≤ 12) : ∀ f i s L, m + 1 ≤ f + i → PRH (spe Bt n P U) n m s L i → TOP s w 145 0 → RPa (d + 10) h B n m (spe Bt n P U) P s w L i (pgM K P f i) := by
  intro f
  induction f with
  | zero =>
    intro i s L hf H T
    have hb := H.j
    omega
  | succ f ih =>
    intro i s L hf H T
    have hb := H.j
    have hm := t.m
    have hn := bb.n
    have hF := H.F
    have hl := H.l
    obtain ⟨B1, B2⟩ := H.B
    obtain ⟨q4, q5, q6, q7⟩ := H.c
    have hN := H.N
    have gw : w < gL n := gL_w (dp := 0) t hb (Nat.zero_le _) (by decide) (by omega)
    have gw2 : w + 2 ≤ gL n := gL_w (dp := 0) (w := w + 1) t hb (Nat.zero_le _) (by decide) (by omega)
    have e : (u1 s 0 w).1 1 = i := H.i
    rw [pgM_s]
    by_cases c44 : K i = 44
    · rw [if_pos c44]
      have hi1 : i + 1 < m := tkM_s t.M hb c44 (by decide) (by decide)
      have hP1 := p16 bb t hi1
      have p1 := it_55 (d := d + 9) bb T gw (by decide) (c_55i (d := d + 3) (s := u1 s 0 w) bb t (by rw [e]; exact hb) (by rw [e]; exact c44) gw2)
      rw [e] at p1
      obtain ⟨s1, hs1⟩ : ∃ s1, s1 = asS (asS (u1 (u1 s 0 w) 1 (i + 1)) 145 0) 144 0 := ⟨_, rfl⟩
      rw [← hs1] at p1
      have F1 : PFx s s1 w := by
        rw [hs1]
        exact PFx_t (PFx_t (PFx_t (PFx_1 (Or.inl rfl)) (PFx_1 (Or.inr rfl))) (PFx_as (Nat.le_refl _))) (PFx_as (by show w ≤ w + 1; omega))
      have T1 : TOP s1 (w + 1) 144 0 := by
        rw [hs1]
        exact TOP.of ⟨rfl, T.f, by rw [as_23, if_pos (by show w + 1 = w + 1; rfl)]; rfl, ⟨by decide, by decide⟩⟩
      have g0 : s1.2 23 w = glI (Int32.ofNat 145) (Int32.ofNat 0) := by
        rw [hs1, as_23, if_neg (by show ¬ w = w + 1; omega), as_23, if_pos (by show w = w; rfl)]
        rfl
      have H1 : PRH (spe Bt n P U) n m s1 L (i + 1) := by
        rw [hs1]
        exact PRH.of ⟨rfl, hi1, H.d, SCE_as (SCE_as (SCE_1 (SCE_1 H.E (by decide)) (by decide))), by omega, H.B, ⟨by show s.1 4 ≤ _; omega, by show s.1 5 ≤ _; omega, by show s.1 6 ≤ _; omega, by show s.1 7 ≤ _; omega⟩, by show 3 * s.1 8 ≤ _; omega, H.F, H.p, H.t⟩
      clear hs1
      by_cases c2 : ¬ K (i + 1) = 2
      · have e7 : ∀ X, tak K 2 (i + 1) X = (i + 1, none) := fun X => if_neg c2
        rw [e7]
        have p2 := x_p0 (d := d) bb t H1.i hi1 T1 (by omega) c2
        have o6 := F1.a 6 (by decide) (by decide) (by decide) (by decide)
        exact ⟨1 + 1, _, PL_t p1 p2, PFx_V (PFx_t F1 (PFx_t (PFx_1 (Or.inl rfl)) PFx_f)) (by omega), by omega, rfl, by show s1.1 6 ≤ _; omega⟩
      have c2 : K (i + 1) = 2 := Classical.not_not.mp c2
      have e7 : ∀ X, tak K 2 (i + 1) X = X := fun X => if_pos c2
      rw [e7]
      obtain ⟨s2, p2, F2, H2, w2, f2⟩ := x_p1 (d := d) bb t H1 (by omega) T1 (by omega) c2
      have T2 : TOP s2 w 145 0 := TOP.of ⟨w2, f2, (F2.r 23 w (by omega) (by omega) (by omega) (by omega)).trans g0, ⟨by decide, by decide⟩⟩
      have F12 : PFx s s2 w := PFx_t F1 (PFx_w F2 (by omega))
      have R := ih (i + 2) s2 ((i + 1, 0) :: L) (by omega) H2 T2
      have gd := pgM_b (P := P) t.M f (i + 2) H2.j
      generalize pgM K P f (i + 2) = r1 at R gd ⊢
      rcases r1 with ⟨j, _ | rr⟩
      · have gj : i + 2 ≤ j := gd.1
        obtain ⟨k3, s3, p3, F3, b3, f3, f4⟩ := R
        have v12 := PFx_V (n := n) F12 (by omega)
        have a9 := v12.a
        obtain ⟨m1, m2⟩ := v12.m
        obtain ⟨m3, m4⟩ := F3.m
        exact ⟨1 + 1 + k3, s3, PL_t (PL_t p1 p2) p3, CVx.of ⟨F3.a.trans a9, fun y hy => (F3.h y (by rw [a9]; exact hy)).trans (v12.h y hy), ⟨by omega, m4⟩⟩, by omega, f3, f4⟩
      · have gj : i + 2 ≤ j := gd.1
        obtain ⟨k3, s3, p3, F3, b3, H3, w3, f3⟩ := R
        have bk : 1 + 1 + k3 ≤ 2 * (j - i) + 1 := by omega
        have va : (tV (tE 13 (P (i + 1)) (i + 1))).toNat = i + 1 := by rw [tE_V (by decide) hP1]; omega
        refine ⟨1 + 1 + k3, s3, PL_t (PL_t p1 p2) p3, PFx_t F12 F3, bk, ?_, w3, f3⟩
        show PRH (spe Bt n P U) n m s3 (prL rr (((tV (tE 13 (P (i + 1)) (i + 1))).toNat, 0) :: L)) j
        rw [va]
        exact H3
    · rw [if_neg c44]
      have p1 := it_55 (d := d + 9) bb T gw (by decide) (c_55j (d := d + 3) (s := u1 s 0 w) bb t (by rw [e]; exact hb) (by rw [e]; exact c44))
      by_cases c41 : K i = 41
      · have e7 : ∀ X, tak K 41 i X = X := fun X => if_pos c41
        rw [e7]
        have hi1 : i + 1 < m := tkM_s t.M hb c41 (by decide) (by decide)
        rw [tkS_p (s := u1 s 0 w) T.f (by rw [e]; exact c41), e] at p1
        exact ⟨1, _, p1, PFx_t (PFx_1 (Or.inl rfl)) (PFx_1 (Or.inr rfl)), by omega, PRH.of ⟨rfl, hi1, H.d, SCE_1 (SCE_1 H.E (by decide)) (by decide), by show 2 * L.length ≤ _; omega, H.B, ⟨by show s.1 4 ≤ _; omega, by show s.1 5 ≤ _; omega, by show s.1 6 ≤ _; omega, by show s.1 7 ≤ _; omega⟩, by show 3 * s.1 8 ≤ _; omega, H.F, H.p, H.t⟩, rfl, T.f⟩
      · have e7 : ∀ X, tak K 41 i X = (i, none) := fun X => if_neg c41
        rw [e7]
        rw [tkS_n (s := u1 s 0 w) T.f (by rw [e]; exact c41), e] at p1
        exact ⟨1, _, p1, PFx_V (PFx_t (PFx_1 (w := w) (Or.inl rfl)) PFx_f) (by omega), by omega, rfl, by show s.1 6 ≤ _; omega⟩
/-- PARAMETERS -/
theorem x_pms (bb : CPB h B n) (t : CTK h B n m Bt K P U V) (hN8 : 8 * m + 6 ≤ N) (hw : w ≤ 12) (H : PRH (spe Bt n P U) n m s [] i) (hi0 : 1 ≤ i) (T : TOP s w 143 0) : RPa (d + 10) h B n m (spe Bt n P U) P s w [] i (if K i = 41 then (i + 1, some (.leaf ())) else tak K 2 i (bnd (pgM K P N (i + 1)) fun r k => (k, some (.branch (tE 13 (P i) i) (.leaf ()) r)))) := by
  have hb := H.j
  have hm := t.m
  have hn := bb.n
  have hF := H.F
  obtain ⟨B1, B2⟩ := H.B
  obtain ⟨q4, q5, q6, q7⟩ := H.c
  have hN := H.N
  have gw : w < gL n := gL_w (dp := 0) t hb (Nat.zero_le _) (by decide) (by omega)
  have gw2 : w + 2 ≤ gL n := gL_w (dp := 0) (w := w + 1) t hb (Nat.zero_le _) (by decide) (by omega)
  have e : (u1 s 0 w).1 1 = i := H.i
  have hP := p16 bb t hb
  by_cases c41 : K i = 41
  · rw [if_pos c41]
    have hi1 : i + 1 < m := tkM_s t.M hb c41 (by decide) (by decide)
    have p1 := it_55 (d := d + 9) bb T gw (by decide) (c_55e (d := d + 3) (s := u1 s 0 w) bb t (by rw [e]; exact hb) (by rw [e]; exact c41))
    rw [e] at p1
    exact ⟨1, _, p1, PFx_t (PFx_1 (Or.inl rfl)) (PFx_1 (Or.inr rfl)), by omega, PRH.of ⟨rfl, hi1, H.d, SCE_1 (SCE_1 H.E (by decide)) (by decide), Nat.zero_le _, H.B, ⟨by show s.1 4 ≤ _; omega, by show s.1 5 ≤ _; omega, by show s.1 6 ≤ _; omega, by show s.1 7 ≤ _; omega⟩, by show 3 * s.1 8 ≤ _; omega, H.F, H.p, H.t⟩, rfl, T.f⟩
  rw [if_neg c41]
  have p1 := it_55 (d := d + 9) bb T gw (by decide) (c_55f (d := d + 3) (s := u1 s 0 w) bb t (by rw [e]; exact hb) (by rw [e]; exact c41) gw2)
  obtain ⟨s1, hs1⟩ : ∃ s1, s1 = asS (asS (u1 s 0 w) 145 0) 144 0 := ⟨_, rfl⟩
  rw [← hs1] at p1
  have F1 : PFx s s1 w := by
    rw [hs1]
    exact PFx_t (PFx_t (PFx_1 (Or.inl rfl)) (PFx_as (Nat.le_refl _))) (PFx_as (by show w ≤ w + 1; omega))
  have T1 : TOP s1 (w + 1) 144 0 := by
    rw [hs1]
    exact TOP.of ⟨rfl, T.f, by rw [as_23, if_pos (by show w + 1 = w + 1; rfl)]; rfl, ⟨by decide, by decide⟩⟩
  have g0 : s1.2 23 w = glI (Int32.ofNat 145) (Int32.ofNat 0) := by
    rw [hs1, as_23, if_neg (by show ¬ w = w + 1; omega), as_23, if_pos (by show w = w; rfl)]
    rfl
  have H1 : PRH (spe Bt n P U) n m s1 [] i := by
    rw [hs1]
    exact PRH.of ⟨H.i, hb, H.d, SCE_as (SCE_as (SCE_1 H.E (by decide))), Nat.zero_le _, H.B, H.c, H.N, H.F, H.p, H.t⟩
  clear hs1
  by_cases c2 : ¬ K i = 2
  · have e7 : ∀ X, tak K 2 i X = (i, none) := fun X => if_neg c2
    rw [e7]
    have p2 := x_p0 (d := d) bb t H1.i hb T1 (by omega) c2
    have o6 := F1.a 6 (by decide) (by decide) (by decide) (by decide)
    exact ⟨1 + 1, _, PL_t p1 p2, PFx_V (PFx_t F1 (PFx_t (PFx_1 (Or.inl rfl)) PFx_f)) (by omega), by omega, rfl, by show s1.1 6 ≤ _; omega⟩
  have c2 : K i = 2 := Classical.not_not.mp c2
  have e7 : ∀ X, tak K 2 i X = X := fun X => if_pos c2
  rw [e7]
  obtain ⟨s2, p2, F2, H2, w2, f2⟩ := x_p1 (d := d) bb t H1 (by show 2 * 0 + 1 ≤ i; omega) T1 (by omega) c2
  have T2 : TOP s2 w 145 0 := TOP.of ⟨w2, f2, (F2.r 23 w (by omega) (by omega) (by omega) (by omega)).trans g0, ⟨by decide, by decide⟩⟩
  have F12 : PFx s s2 w := PFx_t F1 (PFx_w F2 (by omega))
  have R := x_pm (d := d) bb t hw N (i + 1) s2 [(i, 0)] (by omega) H2 T2
  have gd := pgM_b (P := P) t.M N (i + 1) H2.j
  generalize pgM K P N (i + 1) = r1 at R gd ⊢
  rcases r1 with ⟨j, _ | rr⟩
  · have gj : i + 1 ≤ j := gd.1
    obtain ⟨k3, s3, p3, F3, b3, f3, f4⟩ := R
    have v12 := PFx_V (n := n) F12 (by omega)
    have a9 := v12.a
    obtain ⟨m1, m2⟩ := v12.m
    obtain ⟨m3, m4⟩ := F3.m
    exact ⟨1 + 1 + k3, s3, PL_t (PL_t p1 p2) p3, CVx.of ⟨F3.a.trans a9, fun y hy => (F3.h y (by rw [a9]; exact hy)).trans (v12.h y hy), ⟨by omega, m4⟩⟩, by omega, f3, f4⟩
  · have gj : i + 1 ≤ j := gd.1
    obtain ⟨k3, s3, p3, F3, b3, H3, w3, f3⟩ := R
    have bk : 1 + 1 + k3 ≤ 2 * (j - i) + 1 := by omega
    have va : (tV (tE 13 (P i) i)).toNat = i := by rw [tE_V (by decide) hP]; omega
    refine ⟨1 + 1 + k3, s3, PL_t (PL_t p1 p2) p3, PFx_t F12 F3, bk, ?_, w3, f3⟩
    show PRH (spe Bt n P U) n m s3 (prL rr [((tV (tE 13 (P i) i)).toNat, 0)]) j
    rw [va]
    exact H3
end PBz
