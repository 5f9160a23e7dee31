set_option maxRecDepth 100000
/-! the class's parser over functions: a function -/
abbrev TPL (K : Nat → Int32) (P : Nat → Nat) (m : Nat) : Prop := ∀ i j, i + 6 ≤ j → j < m → K i = 4 → K (i + 1) = 2 → P i + 9 ≤ P j
abbrev RFs (d : Nat) (h : mh_H) (B m : Nat) (sp : Nat → Nat → Bool) (P : Nat → Nat) (f : Nat) (s : cps) (w i j : Nat) (t : tr) : Prop := ∃ n cs, t = tNd n cs ∧ ∃ k s', PL d h B k s s' ∧ CFn s s' w ∧ k + 10 ≤ 30 * (j - i) ∧ FNH P m s' j ∧ (s'.1 0 = w ∧ s'.2 16 7 = -1) ∧ s'.1 9 = s.1 9 + 1 ∧ fnN sp s' f (s.1 9) cs (s.1 8) (s'.1 8)
def RFa (d : Nat) (h : mh_H) (B n m : Nat) (sp : Nat → Nat → Bool) (P : Nat → Nat) (f : Nat) (s : cps) (w i : Nat) (r : pqr) : Prop := match r with
  | (j, none) => RTn d h B n P s i j 12
  | (j, some t) => RFs d h B m sp P f s w i j t
section FBz
variable {d : Nat} {h : mh_H} {B n m : Nat} {Bt : Nat → Int32} {K : Nat → Int32} {P U : Nat → Nat} {V : Nat → Int} {s s1 s2 s' : cps} {L : cen} {w b i dp N f j g k0 kf1 kf i1 : Nat} {x y : Int32}
theorem pms_p (hm : tkM K m) (hi : i < m) : ∀ j r, (if K i = 41 then (i + 1, some (.leaf ())) else tak K 2 i (bnd (pgM K P N (i + 1)) fun r k => (k, some (.branch (tE 13 (P i) i) (.leaf ()) r)))) = (j, some r) → i < j ∧ pmW r := by
  intro j r e
  by_cases c : K i = 41
  · rw [if_pos c] at e
    cases e
    exact ⟨Nat.lt_succ_self _, trivial⟩
  · rw [if_neg c] at e
    unfold tak at e
    by_cases c2 : K i = 2
    · rw [if_pos c2] at e
      have h4 := tkM_s hm hi c2 (by decide) (by decide)
      have gd := pgM_b (P := P) hm N (i + 1) h4
      have gw : ∀ l rr, pgM K P N (i + 1) = (l, some rr) → pmW rr := fun l rr => pgM_w N (i + 1)
      generalize pgM K P N (i + 1) = r1 at e gd gw
      rcases r1 with ⟨l, _ | rr⟩
      · cases e
      · have e' : (l, some (Lean.RArray.branch (tE 13 (P i) i) (.leaf ()) rr)) = (j, some r) := e
        have gl : i + 1 ≤ l := gd.1
        cases e'
        exact ⟨gl, tE_K (by decide), rfl, gw _ _ rfl⟩
    · rw [if_neg c2] at e; cases e
theorem RTn_Q (p : PL d h B k0 s s1) (F : FQx s s1 w) (R : RTn d h B n P s1 i1 j kf1) (hk : k0 + (30 * (j - i1) + kf1) ≤ 30 * (j - i) + kf) : RTn d h B n P s i j kf := by
  obtain ⟨k1, s2, p2, F2, b2, f2, f3⟩ := R
  exact ⟨k0 + k1, s2, PL_t p p2, FQx_V F F2, by omega, f2, f3⟩
/-- { .. } of a function -/
theorem x_f2 (bb : CPB h B n) (t : CTK h B n m Bt K P U V) (hN8 : 8 * m + 6 ≤ N + 1) (H : PRH (spe Bt n P U) n m s L j) (T : TOP s (w + 1) 147 1) (hw : w ≤ 4) (o3 : s.1 3 = 0) (hH : ∀ f, f < s.1 9 → nmH s f < m ∧ s.2 15 (6 * f) = Int32.ofNat (nmH s f)) :
    (∃ l, pgB K P V (N + 1) (N + 1) 2 1 j = (l, none) ∧ j ≤ l ∧ RTn (d + 10) h B n P s j l 12) ∨
    (∃ l bs, pgB K P V (N + 1) (N + 1) 2 1 j = (l + 1, some (tNd (tE 2 (P j) 0) bs)) ∧ (j + 1 ≤ l ∧ l + 1 < m) ∧ ∃ k s2, PL (d + 10) h B k s s2 ∧ CRx s s2 (s.1 7) ∧ s.1 8 ≤ s2.1 8 ∧ (∀ y, y ≤ w → s2.2 23 y = s.2 23 y) ∧ (∀ y, y ≠ 6 * s.1 9 + 5 → s2.2 15 y = s.2 15 y) ∧ (∀ k y, k < s.1 8 → s2.2 (24 + k) y = s.2 (24 + k) y) ∧ k ≤ 30 * (l - j) ∧ (s2.1 3 = 0 ∧ s2.1 9 = s.1 9) ∧ TBK s s2 (w + 1) j l 1 ∧ SCE s2 m [] ∧ stR (spe Bt n P U) s2 (s.1 9) N true bs (s.1 8) (s2.1 8) L L.length ∧ s2.2 15 (6 * s.1 9 + 5) = (if gvT bs = true then Int32.ofNat (s2.1 8 - 1) else s.2 15 (6 * s.1 9 + 5))) := by
  have hb := H.j
  have hm := t.m
  have hn := bb.n
  have hF := H.F
  obtain ⟨B1, B2⟩ := H.B
  obtain ⟨q4, q5, q6, q7⟩ := H.c
  have hN := H.N
  have hd := H.d
  have hl := H.l
  have gw : w + 1 < gL n := gL_w (dp := 0) t hb (Nat.zero_le _) (by decide) (by omega)
  have gw2 : w + 2 < gL n := gL_w (dp := 0) t hb (Nat.zero_le _) (by decide) (by omega)
  have e : (u1 s 0 (w + 1)).1 1 = j := H.i
  have ed : (u1 s 0 (w + 1)).1 2 = 0 := H.d
  have p1 := it_56 (d := d + 9) bb T gw (by decide) (c_56b (d := d + 3) (s := u1 s 0 (w + 1)) bb t (by rw [e]; exact hb) (by rw [ed]; decide) (by show w + 1 + 1 ≤ gL n; omega))
  rw [ed] at p1
  obtain ⟨a0, a1, a2, a3⟩ := asQ (s := u1 (u1 s 0 (w + 1)) 2 (0 + 1)) (w := w + 1) (x := 148) (y := 0) rfl
  generalize asS (u1 (u1 s 0 (w + 1)) 2 (0 + 1)) 148 0 = sa at p1 a0 a1 a2 a3
  have ka : ∀ c, c ≠ 0 → c ≠ 2 → sa.1 c = s.1 c := fun c h0 h2 => by
    rw [a1 c h0, u1_1, if_neg h2, u1_1, if_neg h0]
  have k2 : sa.1 2 = 1 := a1 2 (by decide)
  have kr : ∀ z y, ¬ (z = 23 ∧ y = w + 1) → sa.2 z y = s.2 z y := fun z y hz => a2 z y hz
  clear a1 a2
  have af : sa.2 16 7 = -1 := (kr 16 7 (by omega)).trans T.f
  have i1 : sa.1 1 = j := (ka 1 (by decide) (by decide)).trans H.i
  have o6 := ka 6 (by decide) (by decide)
  have o8 := ka 8 (by decide) (by decide)
  have o9 := ka 9 (by decide) (by decide)
  have F0 : FQx s sa (w + 1) := FQx.of ⟨fun c h0 h1 => ka c (by omega) (by omega), fun z k h1 h2 h3 h4 => kr z k (by omega)⟩
  rw [pgB_2, if_neg (by decide)]
  by_cases c123 : ¬ K j = 123
  · refine Or.inl ⟨j, if_neg c123, Nat.le_refl _, ?_⟩
    rw [tkS_n af (by rw [i1]; exact c123), i1] at p1
    exact ⟨1, _, p1, FQx_V F0 (CVx.of ⟨rfl, fun y hy => by rw [u2_2, if_neg (by omega)], ⟨Nat.le_refl _, by show sa.1 8 ≤ _; omega⟩⟩), by omega, rfl, by show sa.1 6 ≤ _; omega⟩
  have c123 : K j = 123 := Classical.not_not.mp c123
  have hj1 : j + 1 < m := tkM_s t.M hb c123 (by decide) (by decide)
  have x123 : ∀ X, tak K 123 j X = X := fun X => if_pos c123
  rw [x123]
  rw [tkS_p af (by rw [i1]; exact c123), i1] at p1
  obtain ⟨s1, hs1⟩ : ∃ s1, s1 = u1 sa 1 (j + 1) := ⟨_, rfl⟩
  rw [← hs1] at p1
  have q1 : s1.1 1 = j + 1 := by rw [hs1]; rfl
  have qc : ∀ c, c ≠ 1 → s1.1 c = sa.1 c := fun c hc => by rw [hs1]; exact if_neg hc
  have qr : s1.2 = sa.2 := by rw [hs1]; rfl
  clear hs1
  have kc : ∀ c, c ≠ 0 → c ≠ 1 → c ≠ 2 → s1.1 c = s.1 c := fun c h0 h1 h2 => (qc c h1).trans (ka c h0 h2)
  have krr : ∀ z y, ¬ (z = 23 ∧ y = w + 1) → s1.2 z y = s.2 z y := fun z y hz => by rw [qr]; exact kr z y hz
  have t0 : s1.1 0 = w + 2 := (qc 0 (by decide)).trans a0
  have t2 : s1.1 2 = 1 := (qc 2 (by decide)).trans k2
  have t3 := kc 3 (by decide) (by decide) (by decide)
  have t4 := kc 4 (by decide) (by decide) (by decide)
  have t5 := kc 5 (by decide) (by decide) (by decide)
  have t6 := kc 6 (by decide) (by decide) (by decide)
  have t7 := kc 7 (by decide) (by decide) (by decide)
  have t8 := kc 8 (by decide) (by decide) (by decide)
  have t9 := kc 9 (by decide) (by decide) (by decide)
  have t10 := kc 10 (by decide) (by decide) (by decide)
  have t11 := kc 11 (by decide) (by decide) (by decide)
  have t12 := kc 12 (by decide) (by decide) (by decide)
  have t13 := kc 13 (by decide) (by decide) (by decide)
  have F1 : FQx s s1 (w + 1) := FQx.of ⟨fun c h0 h1 => kc c (by omega) (by omega) (by omega), fun z k h1 h2 h3 h4 => krr z k (by omega)⟩
  have T1 : TOP s1 (w + 1) 148 0 := TOP.of ⟨t0, by rw [qr]; exact af, by rw [qr]; exact a3, ⟨by decide, by decide⟩⟩
  have H1 : CHt n m s1 L L.length (j + 1) 1 := CHt.of ⟨q1, hj1, t2, ⟨by decide, by decide, by omega⟩, SCE_g H.E t10 t12 t13 (fun z k h1 h2 h3 => krr z k (by omega)), ⟨Nat.le_refl _, by omega⟩, ⟨by omega, by
    rw [Nat.sub_self L.length]
    exact (krr 19 0 (by omega)).trans B2⟩, ⟨by omega, by omega, by omega, by omega⟩, by omega, by omega, by rw [t9]; exact hF, fun g hg => by
    have e15 : s1.2 15 (6 * g) = s.2 15 (6 * g) := krr _ _ (by omega)
    have := hH g (by omega)
    unfold nmH at this ⊢
    rw [e15]
    exact this⟩
  have R := (x_bls (d := d) bb t (N := N + 1) hN8 N).1 (j + 1) 1 s1 (w + 1) L L.length (by omega) H1 T1 (by omega)
  have gd := pgB_b (P := P) (V := V) (N := N + 1) t.M N 0 1 (j + 1) (by decide) hj1
  generalize pgB K P V (N + 1) N 0 1 (j + 1) = r1 at R gd ⊢
  obtain ⟨gd, gk⟩ := gd
  rcases r1 with ⟨l, _ | bs⟩
  · have gl : j + 1 ≤ l := gd.1
    exact Or.inl ⟨l, rfl, by omega, RTn_Q p1 F1 R (by omega)⟩
  · have gl : j + 1 ≤ l := gd.1
    have glm : l < m := gd.2.1
    have kl : K l = 125 := gk rfl l bs rfl
    have hl1 : l + 1 < m := tkM_s t.M glm kl (by decide) (by decide)
    clear gd gk
    obtain ⟨k2, s2, p2, F2, b2, O2, E2, st2, h15⟩ := R
    rw [List.drop_length] at E2
    rw [t9, t8] at st2
    rw [t9, krr 15 _ (by omega)] at h15
    obtain ⟨v4, v5, v6, v7⟩ := O2.c
    have v8 := O2.N
    have fm := F2.m
    have f3 := F2.a 3 (by omega)
    have f9 := F2.a 9 (by omega)
    have eqt : (decide (1 = 1)) = true := rfl
    rw [eqt] at st2
    have CR := CRx_t (FQx_R F1) (CRx_w F2.R (by omega))
    refine Or.inr ⟨l, bs, rfl, ⟨gl, hl1⟩, 1 + k2, s2, PL_t p1 p2, CR, by omega, fun y hy => (F2.g y (by omega)).trans (krr _ _ (by omega)), fun y hy => (F2.h y (by rw [t9]; exact hy)).trans (krr _ _ (by omega)), fun k y hk => (F2.u k y (by omega)).trans (krr _ _ (by omega)), by omega, ⟨by omega, by omega⟩, TBK.of ⟨O2.w, O2.j, O2.d, O2.f, ⟨by omega, by omega, by omega, by omega⟩, by omega, O2.b⟩, E2, st2, ?_⟩
    rw [h15]
    by_cases c : gvT bs = true
    · rw [if_pos ⟨rfl, c⟩, if_pos c]
    · rw [if_neg (fun z => c z.2), if_neg c]
end FBz
