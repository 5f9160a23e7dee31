set_option maxRecDepth 100000
/-! THE REFERENCE'S PARSER: a part is read and joined -/
section GTs
variable {h : mh_H} {P : Nat → Nat} {sch : Bool} {s0 s s1 : pst} {i a o q e : Nat} {fx k p v v1 : Int32} {x : pqr}
/-- a part joined -/
theorem GN_j {n : Nat} {cs r : tr} (w : GN sch s o q e fx k p v r) (e1 : s.dr = e + ts r) (h52 : e + ts r + (1 + ts cs) ≤ 52000) (ho : o < e) (S : pSm s.dr s s1) (d1 : s1.dr = s.dr + (1 + ts cs)) (t : s1.dq (tNd n cs) true s.dr (-1)) (F : RF h) : ∃ s2, GN sch s2 o q e fx k p v (tC r (tNd n cs)) ∧ s2.at = s1.at ∧ s2.bd = s1.bd ∧ s2.fl = s1.fl ∧ s2.dr = s1.dr ∧ (∀ y, y < e → y ≠ o → y ≠ q → pE s1 s2 y) ∧ (∀ y, y < e → y ≠ o → s2.K y = s1.K y ∧ s2.P y = s1.P y ∧ s2.V y = s1.V y ∧ s2.F y = s1.F y) ∧ ∀ D Q, mcall D 314 [.ref 81, .int (Int32.ofNat o), .int (Int32.ofNat (s.dr + dOf n cs))] (pH h s1) Q = Q none (pH h s2) := by
  have ob := dOf_b (n := n) (cs := cs)
  obtain ⟨f1, f2, f3, f4⟩ := jn_f (s := s1) (o := o) (y := s.dr + dOf n cs)
  obtain ⟨w, wq⟩ := w
  have q1 : dSz r false = ts r := by cases r <;> rfl
  have wq1 : s1.dq r false e (-1) := dq_S wq (fun y y1 y2 => S y (by omega))
  have lsC : ∀ q, dLs (tC r (tNd n cs)) e q = s.dr + dOf n cs := fun q => by rw [dLs_C, e1]; rfl
  -- where another part stands before it
  have more : ∀ (F0 : Int32) (L : Nat) (N0 : Int32), nf s o k p v F0 (Int32.ofNat L) N0 → ¬ F0 = -1 → L < e + ts r → L ≠ o → ((e ≤ L ∧ ∃ q', L = dLs r e q' ∧ 1 ≤ ts r) ∨ (L = q ∧ ts r = 0 ∧ q < e)) → (nf (s1.jn o (s.dr + dOf n cs)) o k p v F0 (Int32.ofNat (s.dr + dOf n cs)) N0 ∧ (s1.jn o (s.dr + dOf n cs)).dq (tC r (tNd n cs)) false e (-1) ∧ (ts r = 0 → (s1.jn o (s.dr + dOf n cs)).N q = dHd (tNd n cs) e) ∧ (1 ≤ ts r → q ≠ o → q < e → (s1.jn o (s.dr + dOf n cs)).N q = s.N q) ∧ (∀ y, y < e → y ≠ o → y ≠ q → pE s1 (s1.jn o (s.dr + dOf n cs)) y) ∧ (∀ y, y < e → y ≠ o → (s1.jn o (s.dr + dOf n cs)).K y = s1.K y ∧ (s1.jn o (s.dr + dOf n cs)).P y = s1.P y ∧ (s1.jn o (s.dr + dOf n cs)).V y = s1.V y ∧ (s1.jn o (s.dr + dOf n cs)).F y = s1.F y) ∧ ∀ D Q, mcall D 314 [.ref 81, .int (Int32.ofNat o), .int (Int32.ofNat (s.dr + dOf n cs))] (pH h s1) Q = Q none (pH h (s1.jn o (s.dr + dOf n cs)))) := by
    intro F0 L N0 w0 hF hL hLo hc
    have w1 := nf_S w0 S (by omega)
    have X := jn2_x (y := s.dr + dOf n cs) w1 hF (by omega)
    have lq : L = q ∨ e ≤ L := by rcases hc with z | z; exact Or.inr z.1; exact Or.inl z.1
    refine ⟨jn2_n w1 hF (by omega) hLo, ?_, fun z => ?_, fun z z1 z2 => ?_, fun y y1 y2 y3 => jn2_E w1 hF (by omega) y2 (by omega), fun y y1 y2 => ⟨(X.2 y).1, (X.2 y).2.1, (X.2 y).2.2.1, (X.2 y).2.2.2.1⟩, fun D Q => c_314 F (by omega) (by omega) (fun _ => ⟨L, by omega, w1.2.2.2.2.1⟩) Q⟩
    · have tu : (s1.jn o (s.dr + dOf n cs)).dq (tNd n cs) true s.dr (-1) := dq_S t (fun y y1 y2 => jn2_E w1 hF (by omega) (by omega) (by omega))
      rcases hc with ⟨z1, q', z2, z3⟩ | ⟨z1, z2, z3⟩
      · subst z2
        exact dq_app r (tNd n cs) e q' z3 (fun y y1 y2 => X.2 y) (by rw [X.1, e1]; rfl) (by rw [← e1]; exact dq_1 tu) wq1
      · rw [tC_0 z2]
        rw [show e = s.dr from by omega]
        exact dq_1 tu
    · rcases hc with ⟨z1, q', z2, z3⟩ | ⟨z1, z2, z3⟩
      · omega
      · subst z1
        rw [X.1, show e = s.dr from by omega]
        rfl
    · rw [(X.2 q).2.2.2.2 (by omega)]
      exact (S q (by omega)).2.2.2.2.2
  cases sch with
  | true =>
    rw [if_pos rfl] at w
    obtain ⟨w1, w2, w3, w4, w5⟩ := w
    have lb := dLs_b r e q
    obtain ⟨m1, m2, m3, m4, m5, m6, m7⟩ := more _ (dLs r e q) _ w1 w5 (by rcases lb with z | z <;> omega) (by rcases lb with z | z <;> omega) (by rcases lb with z | z; exact Or.inr ⟨z.1, z.2, w4⟩; exact Or.inl ⟨z.1, q, rfl, by omega⟩)
    refine ⟨_, ⟨?_, m2⟩, f1, f2, f3, f4, m5, m6, m7⟩
    rw [if_pos rfl, lsC]
    refine ⟨m1, ?_, w3, w4, w5⟩
    by_cases c : ts r = 0
    · rw [m3 c, tC_0 c]
    · rw [m4 (by omega) w3 w4, dHd_C (by omega)]; exact w2
  | false =>
    rw [if_neg (by decide)] at w
    obtain ⟨L, w1, w2⟩ := w
    by_cases c : ts r = 0
    · have w1' := nf_S w1 S (by omega)
      rw [dHd_0 c] at w1'
      refine ⟨s1.jn o (s.dr + dOf n cs), ⟨?_, ?_⟩, f1, f2, f3, f4, fun y y1 y2 _ => jn1_E w1' y2, fun y y1 y2 => ⟨(jn1_E w1' y2).1, (jn1_E w1' y2).2.1, (jn1_E w1' y2).2.2.1, (jn1_E w1' y2).2.2.2.1⟩, fun D Q => c_314 F (by omega) (by omega) (fun z => absurd w1'.2.2.2.1 z) Q⟩
      · rw [if_neg (by decide)]
        refine ⟨Int32.ofNat (s.dr + dOf n cs), ?_, fun _ => by rw [lsC]⟩
        rw [tC_0 c, show dHd (tNd n cs) e = Int32.ofNat (s.dr + dOf n cs) from by rw [show s.dr = e from by omega]; rfl]
        exact jn1_n w1'
      · rw [tC_0 c, show e = s.dr from by omega]
        exact dq_1 (dq_S t (fun y y1 y2 => jn1_E w1' (by omega)))
    · have w3 := w2 (by omega)
      subst w3
      have lb := dLs_b r e 0
      have nF : ¬ dHd r e = -1 := by
        cases r with
        | leaf _ => exact absurd rfl c
        | branch n' cs' r' =>
          have ob' := dOf_b (n := n') (cs := cs')
          have es : ts (.branch n' cs' r') = 1 + ts cs' + ts r' := rfl
          exact ofn_m (by omega)
      obtain ⟨m1, m2, m3, m4, m5, m6, m7⟩ := more _ (dLs r e 0) _ w1 nF (by rcases lb with z | z <;> omega) (by rcases lb with z | z <;> omega) (Or.inl (by rcases lb with z | z; omega; exact ⟨z.1, 0, rfl, by omega⟩))
      refine ⟨_, ⟨?_, m2⟩, f1, f2, f3, f4, m5, m6, m7⟩
      rw [if_neg (by decide), dHd_C (by omega)]
      exact ⟨_, m1, fun _ => by rw [lsC]⟩
/-- a part is read (or, behind a fault, none) and joined -/
theorem GS_sub {m : Nat} {Fp : Nat → pqr} {M D : Nat} {ar : List Value} (F : RF h) (w : GS P sch s0 i a o q e fx k p v s x) (h52 : a + 2 * (m - i) + 8 ≤ 52000) (hm : x.1 < m) (C : s.bd = false → s.at < m → s.dr + 2 * (m - s.at) + 8 ≤ 52000 → ∃ s1 v1, SR P (Fp s.at) s.at s.dr s s1 v1 ∧ ∀ Q, mcall D M ar (pH h s) Q = Q (some (.int v1)) (pH h s1)) (gb : ∀ j, j < m → gdr j m 0 (Fp j)) : (bnd x fun r j => bnd (Fp j) fun t k => (k, some (tC r t))).1 < m ∧ ∃ s2, GS P sch s0 i a o q e fx k p v s2 (bnd x fun r j => bnd (Fp j) fun t k => (k, some (tC r t))) ∧ ((s.bd = true ∧ s2 = s) ∨ (s.bd = false ∧ ∃ s1 v1, (∀ Q, mcall D M ar (pH h s) Q = Q (some (.int v1)) (pH h s1)) ∧ ∀ D' Q, mcall D' 314 [.ref 81, .int (Int32.ofNat o), .int v1] (pH h s1) Q = Q none (pH h s2))) := by
  obtain ⟨w1, w2, w3, w4, w5, w6⟩ := w
  obtain ⟨j, ot⟩ := x
  have w2' : s.at = j := w2
  obtain ⟨w3a, w3b, w3c, w3d⟩ := w3
  have w3d' : i ≤ j := w3d
  have hm' : j < m := hm
  rcases w6 with ⟨r, o1, bd, fl, dr, bo, gn⟩ | ⟨o1, bd, fl, dr, bo⟩
  · have o1' : ot = some r := o1
    subst o1'
    have bo' : e + ts r ≤ a + 2 * (j - i) := bo
    have g := gb j hm'
    obtain ⟨s1, v1, S1, q1⟩ := C bd (by omega) (by omega)
    rw [w2'] at S1
    rw [bnd_o]
    generalize Fp j = y at *
    obtain ⟨k', o'⟩ := y
    obtain ⟨g1, g2, g3⟩ := g
    have g1' : j ≤ k' := g1
    have g2' : k' < m := g2
    obtain ⟨T1, T2, T3⟩ := S1
    have T2' : s1.at = k' := T2
    rcases T3 with ⟨n, cs, o2, bd1, fl1, dr1, t1, vv⟩ | ⟨o2, bd1, fl1, dr1, dr1', vv⟩
    · have o2' : o' = some (tNd n cs) := o2
      subst o2'
      have gs' : 1 + ts cs ≤ 2 * (k' - j) := (g3 (tNd n cs) rfl).2.1
      subst vv
      obtain ⟨s2, z1, z2, z3, z4, z5, z6, z7, z8⟩ := GN_j gn dr (by omega) w3b T1 dr1 t1 F
      rw [bnd_o]
      refine ⟨g2', s2, ⟨fun y hy => pE_t (w1 y hy) (pE_t (T1 y (by omega)) (z6 y (by omega) (by omega) (by omega))), z2.trans T2', ⟨w3a, w3b, w3c, by show i ≤ k'; omega⟩, fun y y1 y2 y3 => pE_t (w4 y y1 y2 y3) (pE_t (T1 y (by omega)) (z6 y y1 y2 y3)), fun y y1 y2 => ?_, Or.inl ⟨_, rfl, z3.trans bd1, (z4.trans fl1).trans fl, by rw [z5, dr1, dr, ts_C]; show _ = e + (ts r + (1 + ts cs + 0)); omega, ?_, z1⟩⟩, Or.inr ⟨bd, s1, _, q1, z8⟩⟩
      · obtain ⟨u1, u2, u3, u4⟩ := w5 y y1 y2
        obtain ⟨v1, v2, v3, v4, -, -⟩ := T1 y (by omega)
        obtain ⟨t1, t2, t3, t4⟩ := z7 y y1 y2
        exact ⟨t1.trans (v1.trans u1), t2.trans (v2.trans u2), t3.trans (v3.trans u3), t4.trans (v4.trans u4)⟩
      · rw [ts_C]; show e + (ts r + (1 + ts cs + 0)) ≤ a + 2 * (k' - i); omega
    · have o2' : o' = none := o2
      subst o2'
      have dr2 : s1.dr ≤ s.dr + 2 * (k' - j) + 4 := dr1'
      obtain ⟨Fx, L, N, y1, y2⟩ := GN_f gn (by omega)
      have y3 := nf_S y1 T1 (by omega)
      have m1 : pSm a s0 s1 := fun y hy => pE_t (w1 y hy) (T1 y (by omega))
      rw [bnd_n]
      rcases vv with vv | ⟨y, vv, hy⟩
      · subst vv
        refine ⟨g2', s1, ⟨m1, T2', ⟨w3a, w3b, w3c, by show i ≤ k'; omega⟩, fun y y1 y2 y3 => pE_t (w4 y y1 y2 y3) (T1 y (by omega)), fun y y1 y2 => ?_, Or.inr ⟨rfl, bd1, fl1, by omega, by show s1.dr ≤ a + 2 * (k' - i) + 4; omega⟩⟩, Or.inr ⟨bd, s1, _, q1, fun D' Q => c_314n Q⟩⟩
        obtain ⟨u1, u2, u3, u4⟩ := w5 y y1 y2
        obtain ⟨v1, v2, v3, v4, -, -⟩ := T1 y (by omega)
        exact ⟨v1.trans u1, v2.trans u2, v3.trans u3, v4.trans u4⟩
      · subst vv
        obtain ⟨f1, f2, f3, f4⟩ := jn_f (s := s1) (o := o) (y := y)
        have Ej : ∀ z, z ≠ o → (z < e → z ≠ q) → (e ≤ z → z < a) → pE s1 (s1.jn o y) z := by
          intro z z1 z2 z3
          rcases y2 with c | ⟨c, l, c1, c2, c3⟩
          · subst c; exact jn1_E y3 z1
          · subst c1; exact jn2_E y3 c (by omega) z1 (by rcases c2 with c2 | c2 <;> omega)
        have Kj : ∀ z, z ≠ o → (s1.jn o y).K z = s1.K z ∧ (s1.jn o y).P z = s1.P z ∧ (s1.jn o y).V z = s1.V z ∧ (s1.jn o y).F z = s1.F z := by
          intro z z1
          rcases y2 with c | ⟨c, l, c1, c2, c3⟩
          · subst c; obtain ⟨u1, u2, u3, u4, -⟩ := jn1_E (y := y) y3 z1; exact ⟨u1, u2, u3, u4⟩
          · subst c1; obtain ⟨-, u⟩ := jn2_x (y := y) y3 c (by omega); exact ⟨(u z).1, (u z).2.1, (u z).2.2.1, (u z).2.2.2.1⟩
        refine ⟨g2', s1.jn o y, ⟨fun z hz => pE_t (m1 z hz) (Ej z (by omega) (by omega) (by omega)), f1.trans T2', ⟨w3a, w3b, w3c, by show i ≤ k'; omega⟩, fun z z1 z2 z3 => pE_t (w4 z z1 z2 z3) (pE_t (T1 z (by omega)) (Ej z z2 (fun _ => z3) (by omega))), fun z z1 z2 => ?_, Or.inr ⟨rfl, f2.trans bd1, f3.trans fl1, by omega, by show (s1.jn o y).dr ≤ a + 2 * (k' - i) + 4; omega⟩⟩, Or.inr ⟨bd, s1, _, q1, fun D' Q => c_314 F (by omega) (by omega) (fun c => ?_) Q⟩⟩
        · obtain ⟨u1, u2, u3, u4⟩ := w5 z z1 z2
          obtain ⟨v1, v2, v3, v4, -, -⟩ := T1 z (by omega)
          obtain ⟨t1, t2, t3, t4⟩ := Kj z z2
          exact ⟨t1.trans (v1.trans u1), t2.trans (v2.trans u2), t3.trans (v3.trans u3), t4.trans (v4.trans u4)⟩
        · rcases y2 with c' | ⟨c', l, c1, c2, c3⟩
          · exact absurd (y3.2.2.2.1.trans c') c
          · exact ⟨l, c3, y3.2.2.2.2.1.trans c1⟩
  · have o1' : ot = none := o1
    subst o1'
    rw [bnd_n]
    exact ⟨hm', s, ⟨w1, w2, ⟨w3a, w3b, w3c, w3d⟩, w4, w5, Or.inr ⟨rfl, bd, fl, dr, bo⟩⟩, Or.inl ⟨bd, rfl⟩⟩
end GTs
