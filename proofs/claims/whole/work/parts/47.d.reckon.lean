set_option maxRecDepth 100000
/-! the class's machine: reckon, by the tree -/
def xkP (q : xr) (h : mh_H) (H gv D sum Y k : Nat) (F : (Option Value → mh_H → Prop) → Prop) : Prop := ∃ h', fG mcW h h' ∧ (∀ i, i < H → mh_i h' 72 i = mh_i h 72 i) ∧ mh_i h' 67 3 = Int32.ofNat (min q.2.2 gv) ∧ xo q h' H ∧ (match q.1 with
  | none => ∃ x, ∀ Q, F Q = Q (some (.int x)) h'
  | some _ => ∃ x4 x5, ∀ Q, F Q = mw D 37 Q 20 (rkL sum Y k x4 x5) [] h')
section XKs
variable {d : Nat} {h h1 : mh_H} {Y C SC nC nS nb na p gv H H1 c sum k k1 k2 Ke D : Nat} {x4 x5 : Option Value} {q : xr} {f : Int → Nat → xr} {F : (Option Value → mh_H → Prop) → Prop}
theorem xk_bi (Z : xkP q h H1 gv D sum Y k1 F) (hH : H ≤ H1) (hf : ∀ h' v x4 x5, fG mcW h h' → (∀ i, i < H1 → mh_i h' 72 i = mh_i h 72 i) → mh_i h' 67 3 = Int32.ofNat (min q.2.2 gv) → mh_i h' 67 10 = 0 → mh_i h' 67 12 = Int32.ofNat (H1 + 1) → (mh_i h' 72 H1).toInt = v → iI v → xkP (f v q.2.2) h' H gv D sum Y k2 (fun Q => mw D 37 Q 20 (rkL sum Y k1 x4 x5) [] h')) : xkP (x_bi q f) h H gv D sum Y k2 F := by
  obtain ⟨h', a, b, e3, o, r⟩ := Z
  cases hq : q.1 with
  | none =>
    have e : x_bi q f = q := by unfold x_bi; rw [hq]
    rw [e]
    unfold xo at o
    rw [hq] at o r
    refine ⟨h', a, fun i hi => b i (by omega), e3, ?_, ?_⟩
    · unfold xo; rw [hq]; exact o
    · rw [hq]; exact r
  | some v =>
    have e : x_bi q f = f v q.2.2 := by unfold x_bi; rw [hq]
    rw [e]
    unfold xo at o
    rw [hq] at o r
    obtain ⟨o1, o2, o3, o4⟩ := o
    obtain ⟨y4, y5, run⟩ := r
    obtain ⟨h2, a2, b2, c2, o2', r2⟩ := hf h' v y4 y5 a b e3 o2 o3 o4 o1
    refine ⟨h2, fG_t a a2, fun i hi => (b2 i hi).trans (b i (by omega)), c2, o2', ?_⟩
    cases hq2 : (f v q.2.2).1 with
    | none =>
      rw [hq2] at r2
      obtain ⟨x, r2⟩ := r2
      exact ⟨x, fun Q => (run Q).trans (r2 Q)⟩
    | some w =>
      rw [hq2] at r2
      obtain ⟨z4, z5, r2⟩ := r2
      exact ⟨z4, z5, fun Q => (run Q).trans (r2 Q)⟩
theorem xk_st (B : MB h Y C SC nC nS nb na p gv) (hs : sum + 1 < nS) (hKe : mh_i h SC (sum + 1) = Int32.ofNat Ke) (hk : k ≤ Ke) (hC : 3 * Ke ≤ nC) (a : fG mcW h h1) (b : ∀ i, i < H → mh_i h1 72 i = mh_i h 72 i) (e3 : mh_i h1 67 3 = Int32.ofNat (min q.2.2 gv)) (o : xo q h1 H) (run : ∀ Q, F Q = mw (d + 3) 37 Q 20 (rkL sum Y k x4 x5) [] h1) : xkP q h H gv (d + 3) sum Y k F := by
  refine ⟨h1, a, b, e3, o, ?_⟩
  cases hq : q.1 with
  | some v => exact ⟨x4, x5, run⟩
  | none =>
    unfold xo at o
    rw [hq] at o
    have ne := B.ne
    have z := kx_t (d := d) (x4 := x4) (x5 := x5) (MB_G a B) hs (by rw [MB_i a ⟨ne.2.2.1, ne.2.2.2.1⟩]; exact hKe) hk hC (Or.inl (by rw [o.2]; exact o.1))
    exact ⟨_, fun Q => (run Q).trans (z Q)⟩
variable {en : Int → Nat} {sN : Int → Prop} {A : ab} {V P N : Nat → Int32} {t : tr}
def X0 (d Y C SC nC nS nb na p gv : Nat) (sN : Int → Prop) (en : Int → Nat) (A : ab) (V P N : Nat → Int32) (t : tr) : Prop := ∀ (h : mh_H) (sum k Ke H c : Nat) (x4 x5 : Option Value), MB h Y C SC nC nS nb na p gv → mh_i h 69 = V → mh_i h 70 = P → mh_i h 68 = N → cd en nb na A.rm (mh_i h C) t false k → wS sN en A t false → k + cl t false ≤ Ke → 3 * Ke ≤ nC → sum + 1 < nS → mh_i h SC (sum + 1) = Int32.ofNat Ke → H + sh t false ≤ 124 → mh_i h 67 10 = 0 → mh_i h 67 3 = Int32.ofNat (min c gv) → mh_i h 67 12 = Int32.ofNat H → xkP (xv en V P A.rm N gv t none c) h H gv (d + 3) sum Y (k + cl t false) (fun Q => mw (d + 3) 37 Q 20 (rkL sum Y k x4 x5) [] h)
def X1 (d Y C SC nC nS nb na p gv : Nat) (sN : Int → Prop) (en : Int → Nat) (A : ab) (V P N : Nat → Int32) (t : tr) : Prop := ∀ (h : mh_H) (sum k Ke H c : Nat) (x4 x5 : Option Value) (a : Int), MB h Y C SC nC nS nb na p gv → mh_i h 69 = V → mh_i h 70 = P → mh_i h 68 = N → cd en nb na A.rm (mh_i h C) t true k → wS sN en A t true → k + cl t true ≤ Ke → 3 * Ke ≤ nC → sum + 1 < nS → mh_i h SC (sum + 1) = Int32.ofNat Ke → H + 1 + sh t true ≤ 124 → mh_i h 67 10 = 0 → mh_i h 67 3 = Int32.ofNat (min c gv) → mh_i h 67 12 = Int32.ofNat (H + 1) → (mh_i h 72 H).toInt = a → iI a → xkP (xv en V P A.rm N gv t (some a) c) h H gv (d + 3) sum Y (k + cl t true) (fun Q => mw (d + 3) 37 Q 20 (rkL sum Y k x4 x5) [] h)
theorem X1_leaf (u : Unit) : X1 d Y C SC nC nS nb na p gv sN en A V P N (.leaf u) := by
  intro h sum k Ke H c x4 x5 a B _ _ _ _ _ _ _ _ _ _ e10 e3 e12 es ha
  exact ⟨h, fG_id, fun _ _ => rfl, e3, ⟨ha, e10, e12, es⟩, x4, x5, fun _ => rfl⟩
theorem X1_br {n : Nat} {cs r : tr} (i0 : X0 d Y C SC nC nS nb na p gv sN en A V P N cs) (i1 : X1 d Y C SC nC nS nb na p gv sN en A V P N r) : X1 d Y C SC nC nS nb na p gv sN en A V P N (.branch n cs r) := by
  intro h sum k Ke H c x4 x5 a B hV hP hN hcd hw hk hC hs hKe hH e10 e3 e12 es ha
  rw [cl_L] at hk ⊢
  rw [sh_L] at hH
  obtain ⟨c1, c2, c3⟩ := hcd
  obtain ⟨w1, w2, w3⟩ := hw
  have cp := cl_pos w2
  have ne := B.ne
  have bC := B.bC
  rw [xv_L]
  refine xk_bi (i0 h sum k Ke (H + 1) c x4 x5 B hV hP hN c1 w2 (by omega) hC hs hKe (by omega) e10 e3 e12) (by omega : H ≤ H + 1) (fun h1 v y4 y5 a1 b1 t1 t2 t3 t4 t5 => ?_)
  have B1 := MB_G a1 B
  have hC1 : mh_i h1 C = mh_i h C := MB_i a1 ⟨ne.1, ne.2.1⟩
  have hS1 : mh_i h1 SC = mh_i h SC := MB_i a1 ⟨ne.2.2.1, ne.2.2.2.1⟩
  have hKe1 : mh_i h1 SC (sum + 1) = Int32.ofNat Ke := by rw [hS1]; exact hKe
  have c2' : mh_i h1 C (3 * (k + cl cs false)) = opb (tK n) := by rw [hC1]; exact c2
  obtain ⟨h2, a2, b2, t6, o2, run2⟩ := kx_6 (d := d) (sum := sum) (k := k + cl cs false) (H := H) (c := (xv en V P A.rm N gv cs none c).2.2) (x := mh_i h1 C (3 * (k + cl cs false) + 1)) (w := mh_i h1 C (3 * (k + cl cs false) + 2)) B1 (by omega) (by omega) t3 (by omega) t2 w1 c2'
  have sH : (mh_i h1 72 H).toInt = a := by rw [b1 H (by omega)]; exact es
  rw [sH, t4] at o2
  have oc : (x_op (tK n) a v (xv en V P A.rm N gv cs none c).2.2).2.2 = (xv en V P A.rm N gv cs none c).2.2 := by
    unfold x_op x_int
    split
    · rfl
    · split <;> rfl
  have Z := xk_st (d := d) (F := fun Q => mw (d + 3) 37 Q 20 (rkL sum Y (k + cl cs false) y4 y5) [] h1) (k := k + cl cs false + 1) B1 hs hKe1 (by omega) hC a2 b2 (by rw [t6, oc]; exact t1) o2 (fun Q => by
    rw [kx_0 B1 hs hKe1 (by omega) hC t2, c2']
    exact run2 Q)
  refine xk_bi Z (Nat.le_refl _) (fun h3 v3 z4 z5 a3 b3 u1 u2 u3 u4 u5 => ?_)
  have B3 := MB_G a3 B1
  have a13 := fG_t a1 a3
  have Z5 := i1 h3 sum (k + cl cs false + 1) Ke H _ z4 z5 v3 B3 (by rw [MB_i a13 (by omega)]; exact hV) (by rw [MB_i a13 (by omega)]; exact hP) (by rw [MB_i a13 (by omega)]; exact hN) (by rw [MB_i a13 ⟨ne.1, ne.2.1⟩]; exact c3) w3 (by omega) hC hs (by rw [MB_i a13 ⟨ne.2.2.1, ne.2.2.2.1⟩]; exact hKe) (by omega) u2 u1 u3 u4 u5
  have ke : k + cl cs false + 1 + cl r true = k + (cl cs false + 1 + cl r true) := by omega
  rw [ke] at Z5
  exact Z5
theorem X0_br (hA : A.n ≤ 12 ∧ A.a ≤ 6) {n : Nat} {cs r : tr} (i0 : X0 d Y C SC nC nS nb na p gv sN en A V P N cs) (i1 : X0 d Y C SC nC nS nb na p gv sN en A V P N (tT cs)) (i2 : X1 d Y C SC nC nS nb na p gv sN en A V P N (tT cs)) : X0 d Y C SC nC nS nb na p gv sN en A V P N (.branch n cs r) := by
  intro h sum k Ke H c x4 x5 B hV hP hN hcd hw hk hC hs hKe hH e10 e3 e12
  have cp := cl_pos hw
  have ne := B.ne
  have bC := B.bC
  have k0 := fun hk' => kx_0 (d := d) (x4 := x4) (x5 := x5) (k := k) B hs hKe hk' hC e10
  by_cases k12 : tK n = 12
  · rw [cl_12 k12] at hk ⊢
    rw [sh_12 k12] at hH
    obtain ⟨c1, c2⟩ := cd_12 k12 hcd
    have w' := w_12 k12 hw
    rw [xv_12 k12]
    refine xk_st B hs hKe (by omega) hC (psH_f (H := H) (x := mh_i h C (3 * k + 1))) (fun i hi => psH_l hi) (by rw [psH_3]; exact e3) (xo_s w' (by rw [psH_10]; exact e10) psH_12 (by rw [psH_s]; exact c2)) (fun Q => by
      rw [k0 (by omega), c1]
      exact kx_1 B (by omega) e12 (by omega) Q)
  by_cases k13 : tK n = 13
  · rw [cl_13 k13] at hk ⊢
    rw [sh_13 k13] at hH
    obtain ⟨c1, s, c2, c3⟩ := cd_13 k13 hcd
    obtain ⟨w1, w2⟩ := w_13 k13 hw
    rw [xv_13 k13]
    refine xk_st B hs hKe (by omega) hC (psH_f (H := H) (x := mh_i h 69 (nb + s))) (fun i hi => psH_l hi) (by rw [psH_3]; exact e3) (xo_s (i32_I _) (by rw [psH_10]; exact e10) psH_12 (by rw [psH_s, ← hV, c3])) (fun Q => by
      rw [k0 (by omega), c1, c2]
      exact kx_2 B (by omega) e12 (by omega) (by omega) Q)
  by_cases k14 : tK n = 14
  · obtain ⟨m, cs', r', rfl, v1, v2, v3, v4, v5, v6⟩ := w_14 k14 hw
    rw [cl_14 k14] at hk ⊢
    rw [sh_14 k14] at hH
    obtain ⟨c1, c2, ⟨s, c3, c4⟩, c5⟩ := cd_14 k14 hcd
    have cp' := cl_pos v6
    rw [xv_14 (cs' := cs') k14]
    have i1' : X0 d Y C SC nC nS nb na p gv sN en A V P N r' := i1
    refine xk_bi (i1' h sum k Ke H c x4 x5 B hV hP hN c1 v6 (by omega) hC hs hKe (by omega) e10 e3 e12) (Nat.le_refl _) (fun h1 v y4 y5 a1 b1 t1 t2 t3 t4 t5 => ?_)
    have B1 := MB_G a1 B
    have hC1 : mh_i h1 C = mh_i h C := MB_i a1 ⟨ne.1, ne.2.1⟩
    have hKe1 : mh_i h1 SC (sum + 1) = Int32.ofNat Ke := by rw [MB_i a1 ⟨ne.2.2.1, ne.2.2.2.1⟩]; exact hKe
    rw [← hC1] at c2 c3 c5
    have k0' := kx_0 (d := d) (x4 := y4) (x5 := y5) (k := k + cl r' false) B1 hs hKe1 (by omega) hC t2
    rw [c2, c3, c5] at k0'
    have run := fun Q => (k0' Q).trans (kx_3 (d := d) (sum := sum) (k := k + cl r' false) (H := H) (s := s) (z := A.rm (en (tV m))) B1 (by omega) t3 (by omega) t2 (by omega) v5 Q)
    rw [t4] at run
    by_cases cc : v < 0 ∨ (A.rm (en (tV m)) : Int) ≤ v
    · rw [if_pos cc]
      rw [if_pos cc] at run
      exact xk_st B1 hs hKe1 (by omega) hC (flH_f (w := 4)) (fun i hi => by rw [hi_si, if_neg (by omega)]) (by rw [hi_si, if_neg (by omega)]; exact t1) (xo_t (by decide) (by rw [hi_si, if_pos ⟨rfl, rfl⟩])) run
    · rw [if_neg cc]
      rw [if_neg cc] at run
      refine xk_st B1 hs hKe1 (by omega) hC (fG_si (Or.inl rfl)) (fun i hi => by rw [hi_si, if_neg (by omega)]) (by rw [hi_si, if_neg (by omega)]; exact t1) (xo_s (i32_I _) (by rw [hi_si, if_neg (by omega)]; exact t2) (by rw [hi_si, if_neg (by omega)]; exact t3) ?_) run
      rw [hi_si, if_pos ⟨rfl, rfl⟩, MB_i a1 (by omega : 70 ≠ 72 ∧ 70 ≠ 67), hP, c4]
  by_cases k15 : tK n = 15
  · have v6 := w_15 k15 hw
    rw [cl_15 k15] at hk ⊢
    rw [sh_15 k15] at hH
    obtain ⟨c1, c2⟩ := cd_15 k15 hcd
    have cp' := cl_pos v6
    rw [xv_15 k15]
    refine xk_bi (i0 h sum k Ke H c x4 x5 B hV hP hN c1 v6 (by omega) hC hs hKe (by omega) e10 e3 e12) (Nat.le_refl _) (fun h1 v y4 y5 a1 b1 t1 t2 t3 t4 t5 => ?_)
    have B1 := MB_G a1 B
    have hC1 : mh_i h1 C = mh_i h C := MB_i a1 ⟨ne.1, ne.2.1⟩
    have hKe1 : mh_i h1 SC (sum + 1) = Int32.ofNat Ke := by rw [MB_i a1 ⟨ne.2.2.1, ne.2.2.2.1⟩]; exact hKe
    rw [← hC1] at c2
    have k0' := kx_0 (d := d) (x4 := y4) (x5 := y5) (k := k + cl cs false) B1 hs hKe1 (by omega) hC t2
    rw [c2] at k0'
    have run := fun Q => (k0' Q).trans (kx_5 (d := d) (sum := sum) (k := k + cl cs false) (H := H) B1 (by omega) t3 (by omega) t2 Q)
    have f0 : fG mcW h1 (mh_si h1 67 12 (Int32.ofNat H)) := fG_si (Or.inr ⟨rfl, by omega⟩)
    obtain ⟨p1, p2, p3, p4⟩ := pi_k (c := (xv en V P A.rm N gv cs none c).2.2) (h := mh_si h1 67 12 (Int32.ofNat H)) (H := H) (v := -(mh_i h1 72 H).toInt64) (by rw [hi_si, if_neg (by omega)]; exact t2)
    have ev : (-(mh_i h1 72 H).toInt64).toInt = -v := by
      rw [i64_n (by rw [Int32.toInt_toInt64, t4]; unfold iI at t5; omega), Int32.toInt_toInt64, t4]
    rw [ev] at p4
    have oc : (x_int (-v) (xv en V P A.rm N gv cs none c).2.2).2.2 = (xv en V P A.rm N gv cs none c).2.2 := by
      unfold x_int
      split <;> rfl
    exact xk_st B1 hs hKe1 (by omega) hC (fG_t f0 p1) (fun i hi => by rw [p2 i hi, hi_si, if_neg (by omega)]) (by rw [p3, hi_si, if_neg (by omega), oc]; exact t1) p4 run
  by_cases k16 : tK n = 16
  · rw [cl_16 k16] at hk ⊢
    rw [sh_16 k16] at hH
    rcases w_16 k16 hw with ⟨u, rfl⟩ | ⟨l, c1', g', c2', r2', rfl, v1, v2, v3, v4⟩
    · obtain ⟨c1, c2, c3⟩ := cd_16 k16 hcd
      rw [xv_16 k16]
      obtain ⟨y, h1, q1, q2, q3, q4, q5, q6, run⟩ := kx_4 (d := d) (sum := sum) (k := k) (H := H) (c := c) B (by omega) e12 (by omega) e3 (l := mh_i h C (3 * k + 1)) (u := mh_i h C (3 * k + 2))
      rw [c2, c3, hN] at q1
      have any : x_any (-2147483648) 2147483647 (x_in N gv c) = x_in N gv c := by
        have z := x_in_I (N := N) (g := gv) (c := c)
        unfold iI at z
        unfold x_any
        rw [if_neg (by omega)]
      rw [any] at q1
      exact xk_st B hs hKe (by omega) hC (fG_t q2 (psH_f (h := h1) (H := H) (x := y))) (fun i hi => by rw [psH_l hi, q6]) (by rw [psH_3]; exact q3) (xo_s x_in_I (by rw [psH_10, q4]; exact e10) psH_12 (by rw [psH_s]; exact q1)) (fun Q => by rw [k0 (by omega), c1]; exact run Q)
    · obtain ⟨c1, c2, c3⟩ := cd_16b k16 hcd
      rw [xv_16b k16]
      obtain ⟨y, h1, q1, q2, q3, q4, q5, q6, run⟩ := kx_4 (d := d) (sum := sum) (k := k) (H := H) (c := c) B (by omega) e12 (by omega) e3 (l := mh_i h C (3 * k + 1)) (u := mh_i h C (3 * k + 2))
      rw [c2, c3, hN] at q1
      exact xk_st B hs hKe (by omega) hC (fG_t q2 (psH_f (h := h1) (H := H) (x := y))) (fun i hi => by rw [psH_l hi, q6]) (by rw [psH_3]; exact q3) (xo_s (x_any_I v2 x_in_I) (by rw [psH_10, q4]; exact e10) psH_12 (by rw [psH_s]; exact q1)) (fun Q => by rw [k0 (by omega), c1]; exact run Q)
  · have kn : ¬ tK n = 12 ∧ ¬ tK n = 13 ∧ ¬ tK n = 14 ∧ ¬ tK n = 15 ∧ ¬ tK n = 16 := ⟨k12, k13, k14, k15, k16⟩
    obtain ⟨m, cs', r', rfl, v1, v2⟩ := w_17 kn hw
    rw [cl_17 kn] at hk ⊢
    rw [sh_17 kn] at hH
    obtain ⟨c1, c2, c3⟩ := cd_17 kn hcd
    rw [xv_17 kn]
    have i2' : X1 d Y C SC nC nS nb na p gv sN en A V P N r' := i2
    refine xk_bi (i0 h sum k Ke H c x4 x5 B hV hP hN c1 v1 (by omega) hC hs hKe (by omega) e10 e3 e12) (Nat.le_refl _) (fun h1 v y4 y5 a1 b1 t1 t2 t3 t4 t5 => ?_)
    have Z5 := i2' h1 sum (k + cl (.branch m cs' r') false) Ke H _ y4 y5 v (MB_G a1 B) (by rw [MB_i a1 (by omega)]; exact hV) (by rw [MB_i a1 (by omega)]; exact hP) (by rw [MB_i a1 (by omega)]; exact hN) (by rw [MB_i a1 ⟨ne.1, ne.2.1⟩]; exact c2) v2 (by omega) hC hs (by rw [MB_i a1 ⟨ne.2.2.1, ne.2.2.2.1⟩]; exact hKe) (by omega) t2 t1 t3 t4 t5
    have ke : k + cl (.branch m cs' r') false + cl r' true = k + (cl (.branch m cs' r') false + cl r' true) := by omega
    rw [ke] at Z5
    exact Z5
theorem X_all (hA : A.n ≤ 12 ∧ A.a ≤ 6) : ∀ t, X0 d Y C SC nC nS nb na p gv sN en A V P N t ∧ X1 d Y C SC nC nS nb na p gv sN en A V P N t ∧ X0 d Y C SC nC nS nb na p gv sN en A V P N (tT t) ∧ X1 d Y C SC nC nS nb na p gv sN en A V P N (tT t) := by
  have L0 : ∀ u, X0 d Y C SC nC nS nb na p gv sN en A V P N (.leaf u) := by
    intro u h sum k Ke H c x4 x5 _ _ _ _ _ w
    exact absurd w (fun z => z)
  intro t
  induction t with
  | leaf u => exact ⟨L0 u, X1_leaf u, L0 u, X1_leaf u⟩
  | branch n cs r ih1 ih2 => exact ⟨X0_br hA ih1.1 ih1.2.2.1 ih1.2.2.2, X1_br ih1.1 ih2.2.1, ih2.1, ih2.2.1⟩
/-- the class's reckon of a run -/
theorem v_37 (hA : A.n ≤ 12 ∧ A.a ≤ 6) (B : MB h Y C SC nC nS nb na p gv) (hcd : cd en nb na A.rm (mh_i h C) t false k) (hw : wS sN en A t false) (hs : sum + 1 < nS) (hk0 : mh_i h SC sum = Int32.ofNat k) (hKe : mh_i h SC (sum + 1) = Int32.ofNat (k + cl t false)) (hC : 3 * (k + cl t false) ≤ nC) (hH : sh t false ≤ 124) (e10 : mh_i h 67 10 = 0) (e3 : mh_i h 67 3 = Int32.ofNat (min c gv)) : ∃ h' x, fG mcW h h' ∧ mh_i h' 67 3 = Int32.ofNat (min (xv en (mh_i h 69) (mh_i h 70) A.rm (mh_i h 68) gv t none c).2.2 gv) ∧ (match (xv en (mh_i h 69) (mh_i h 70) A.rm (mh_i h 68) gv t none c).1 with | none => ¬ (xv en (mh_i h 69) (mh_i h 70) A.rm (mh_i h 68) gv t none c).2.1 = 0 ∧ mh_i h' 67 10 = (xv en (mh_i h 69) (mh_i h 70) A.rm (mh_i h 68) gv t none c).2.1 | some v => mh_i h' 67 10 = 0 ∧ x.toInt = v) ∧ ∀ Q, mcall (d + 3) 37 [.ref 67, .int (Int32.ofNat sum)] h Q = Q (some (.int x)) h' := by
  have bS := B.bS
  have bC := B.bC
  have ne := B.ne
  have f0 : fG mcW h (mh_si h 67 12 (Int32.ofNat 0)) := fG_si (Or.inr ⟨rfl, by omega⟩)
  have B0 := MB_G f0 B
  have hS0 : mh_i (mh_si h 67 12 (Int32.ofNat 0)) SC (sum + 1) = Int32.ofNat (k + cl t false) := by rw [MB_i f0 ⟨ne.2.2.1, ne.2.2.2.1⟩]; exact hKe
  have Z := (X_all (d := d) (p := p) (gv := gv) (Y := Y) (C := C) (SC := SC) (nC := nC) (nS := nS) (nb := nb) (na := na) (sN := sN) (en := en) (A := A) (V := mh_i h 69) (P := mh_i h 70) (N := mh_i h 68) hA t).1 (mh_si h 67 12 (Int32.ofNat 0)) sum k (k + cl t false) 0 c none none B0 (MB_i f0 (by omega)) (MB_i f0 (by omega)) (MB_i f0 (by omega)) (by rw [MB_i f0 ⟨ne.1, ne.2.1⟩]; exact hcd) hw (Nat.le_refl _) hC hs hS0 (by omega) (by rw [hi_si, if_neg (by omega)]; exact e10) (by rw [hi_si, if_neg (by omega)]; exact e3) (by rw [hi_si, if_pos ⟨rfl, rfl⟩])
  obtain ⟨h', a, b, e3', o, r⟩ := Z
  have start : ∀ Q, mcall (d + 3) 37 [.ref 67, .int (Int32.ofNat sum)] h Q = mw (d + 3) 37 Q 20 (rkL sum Y k none none) [] (mh_si h 67 12 (Int32.ofNat 0)) := fun Q => by
    have g := B.g
    have r0 := B.r0
    have g2 := B.g2
    have r21 := B.r21
    have gY := B.gY
    have y6 := B.y6
    have gS := B.gS
    have lS := B.lS
    have e0 : Int32.ofNat 0 = 0 := rfl
    have n67 : (SC = 67) = False := eq_false ne.2.2.2.1
    clear B B0 a b e3' o r hcd hw
    simp (disch := omega) only [s_37_0, s_37_1, s_37_4, s_37_7, s_37_7n, s_37_8, s_37_9, s_37_10, s_37_13, s_37_14, s_37_17, s_37_18, s_37_19, s_37_21, s_37_22, s_37_25, s_37_26, s_37_27, s_37_28, s_37_29, s_37_32, s_37_33, s_37_36, s_37_39, s_37_40, s_37_43, s_37_44, s_37_45, s_37_46, s_37_47, s_37_48, s_37_49, s_37_51, s_37_52, s_37_55, s_37_56, s_37_57, s_37_58, s_37_59, s_37_60, s_37_61, s_37_63, s_37_64, s_37_67, s_37_68, s_37_69, s_37_70, s_37_71, s_37_104, s_37_105, s_37_107, s_37_110, s_37_113, s_37_114, s_37_115, s_37_118, s_37_119, s_37_122, s_37_125, s_37_126, s_37_129, s_37_130, s_37_132, s_37_133, s_37_134, s_37_137, s_37_140, s_37_141, s_37_142, s_37_144, s_37_146, s_37_149, s_37_152, s_37_155, s_37_156, s_37_157, s_37_160, s_37_163, s_37_164, s_37_167, s_37_168, s_37_170, s_37_171, s_37_173, s_37_176, s_37_179, s_37_180, s_37_181, s_37_184, s_37_185, s_37_186, s_37_189, s_37_190, s_37_191, s_37_194, s_37_195, s_37_198, s_37_199, s_37_200, s_37_201, s_37_204, s_37_207, s_37_208, s_37_209, s_37_212, s_37_213, s_37_214, s_37_217, s_37_218, s_37_219, s_37_222, s_37_223, s_37_224, s_37_225, s_37_226, s_37_227, s_37_230, s_37_231, s_37_234, s_37_235, s_37_236, s_37_237, s_37_240, s_37_241, s_37_244, s_37_245, s_37_246, s_37_247, s_37_248, s_37_251, s_37_254, s_37_257, s_37_258, s_37_261, s_37_262, s_37_263, e_37, mv_i_1, mv_l_1, mv_a_1, mv_a_2, mv_a_3, mk2_n, mk2_i, mk2_l, mk2_a, mk2_u, mk2_x, mB_T, mB_F, mS_cons, mS_nil, mSB_T, mSB_F, mca_nil, mca_i, mca_l, mca_r, mca_u, mca_x, mcat_i, mcat_l, mcat_r, mcat_u, mcat_x, mK_some, mK_none, va_rf_s, va_rf_n, lgc_eq, lgc_lt, lgc_gt, lgc_ge, lgc_le, mrd_104, mrd_105, mrd_106, mrd_107, true_and, and_true, and_self, false_and, and_false, true_or, or_true, false_or, or_false, not_true_eq_false, not_false_eq_true, mgb, mga, mgr, mN, reduceCtorEq, ↓reduceIte, eq_self, ge_iff_le, gt_iff_lt, hk_si, hk_sj, hk_sr, hl_si, hl_sj, hl_sr, hn_si, hn_sj, hn_sr, hs_si, hs_sj, hs_sr, hi_sj, hi_sr, hj_si, hj_sr, hr_si, hr_sj, hi_si, hj_sj, hr_sr, mg_si, mg_sj, mg_sr, Nat.reduceAdd, Nat.reduceMul, Nat.reduceSub, Nat.reduceLT, Nat.reduceGT, Nat.reduceEqDiff, Nat.reduceLeDiff, Nat.left_eq_add, Nat.add_eq_left, Nat.reduceMod, Nat.reduceDiv, Nat.succ_ne_self, g, r0, g2, r21, gY, y6, gS, lS, n67, hk0, e0, nn_mxT, nn_clamp]
  obtain ⟨q, eq⟩ : ∃ q, xv en (mh_i h 69) (mh_i h 70) A.rm (mh_i h 68) gv t none c = q := ⟨_, rfl⟩
  rw [eq] at e3' o r ⊢
  unfold xo at o
  cases hq : q.1 with
  | none =>
    rw [hq] at o r
    obtain ⟨x, run⟩ := r
    exact ⟨h', x, fG_t f0 a, e3', o, fun Q => (start Q).trans (run Q)⟩
  | some v =>
    rw [hq] at o r
    obtain ⟨x4, x5, run⟩ := r
    have z := kx_t (d := d) (x4 := x4) (x5 := x5) (MB_G a B0) hs (by rw [MB_i a ⟨ne.2.2.1, ne.2.2.2.1⟩]; exact hS0) (Nat.le_refl _) hC (Or.inr rfl)
    exact ⟨h', _, fG_t f0 a, e3', ⟨o.2.1, o.2.2.2⟩, fun Q => (start Q).trans ((run Q).trans (z Q))⟩
end XKs
