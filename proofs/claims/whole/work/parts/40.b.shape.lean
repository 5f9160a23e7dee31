set_option maxRecDepth 100000
/-! shapes and order in the analysis -/
/-- a state whose bounds need not be tight -/
abbrev shL (n a : Nat) (r : Nat → Nat) (A : ab) : Prop := (A.n = n) ∧ (A.a = a) ∧ (∀ x, x < a → A.rm x = r x) ∧ (n ≤ 12) ∧ (a ≤ 6) ∧ (oc_C n A.m) ∧ (∀ i j, i < 2 * n → j < 2 * n → i ≠ j → A.m i j ≤ gI j + gI (oc_b i)) ∧ (∀ x, x < a → -2147483648 ≤ A.lo x ∧ A.lo x ≤ A.hi x ∧ A.hi x ≤ 2147483647)
theorem shL.n {n a : Nat} {r : Nat → Nat} {A : ab} (q : shL n a r A) : A.n = n := q.1
theorem shL.a {n a : Nat} {r : Nat → Nat} {A : ab} (q : shL n a r A) : A.a = a := q.2.1
theorem shL.r {n a : Nat} {r : Nat → Nat} {A : ab} (q : shL n a r A) : ∀ x, x < a → A.rm x = r x := q.2.2.1
theorem shL.n12 {n a : Nat} {r : Nat → Nat} {A : ab} (q : shL n a r A) : n ≤ 12 := q.2.2.2.1
theorem shL.a6 {n a : Nat} {r : Nat → Nat} {A : ab} (q : shL n a r A) : a ≤ 6 := q.2.2.2.2.1
theorem shL.C {n a : Nat} {r : Nat → Nat} {A : ab} (q : shL n a r A) : oc_C n A.m := q.2.2.2.2.2.1
theorem shL.up {n a : Nat} {r : Nat → Nat} {A : ab} (q : shL n a r A) : ∀ i j, i < 2 * n → j < 2 * n → i ≠ j → A.m i j ≤ gI j + gI (oc_b i) := q.2.2.2.2.2.2.1
theorem shL.e {n a : Nat} {r : Nat → Nat} {A : ab} (q : shL n a r A) : ∀ x, x < a → -2147483648 ≤ A.lo x ∧ A.lo x ≤ A.hi x ∧ A.hi x ≤ 2147483647 := q.2.2.2.2.2.2.2
section SLs
variable {n a : Nat} {r : Nat → Nat} {A B S : ab}
theorem shL_of (h : shp n a r (some A)) : shL n a r A := by
  obtain ⟨T, e1, e2, e3⟩ := h A rfl
  subst e1 e2
  exact ⟨rfl, rfl, e3, T.n12, T.a6, T.t.1, T.up, T.e⟩
theorem shp_of (T : ab_T A) (h : shL n a r A) : shp n a r (some A) := fun B e => by
  cases e
  exact ⟨T, h.n, h.a, h.r⟩
theorem shL_wid (h : shL n a r A) (k : shp n a r (some B)) : shL n a r (a_wid A B) := by
  obtain ⟨T, e1, e2, e3⟩ := k B rfl
  have cB : oc_C n B.m := by rw [← e1]; exact T.t.1
  have cA := h.C
  refine ⟨h.n, h.a, h.r, h.n12, h.a6, ⟨fun i hi => ?_, fun i j hi hj => ?_⟩, fun i j hi hj hij => ?_, fun x hx => ?_⟩
  · show (if A.m i i < B.m i i then gI i + gI (oc_b i) else A.m i i) = 0
    rw [cA.1 i hi, cB.1 i hi, if_neg (by omega)]
  · show (if A.m i j < B.m i j then gI j + gI (oc_b i) else A.m i j) = (if A.m (oc_b j) (oc_b i) < B.m (oc_b j) (oc_b i) then gI (oc_b i) + gI (oc_b (oc_b j)) else A.m (oc_b j) (oc_b i))
    rw [← cA.2 i j hi hj, ← cB.2 i j hi hj, oc_bb]
    split <;> omega
  · show (if A.m i j < B.m i j then gI j + gI (oc_b i) else A.m i j) ≤ gI j + gI (oc_b i)
    have := h.up i j hi hj hij
    split <;> omega
  · show -2147483648 ≤ (if B.lo x < A.lo x then -2147483648 else A.lo x) ∧ (if B.lo x < A.lo x then -2147483648 else A.lo x) ≤ (if A.hi x < B.hi x then 2147483647 else A.hi x) ∧ (if A.hi x < B.hi x then 2147483647 else A.hi x) ≤ 2147483647
    have := h.e x hx
    split <;> split <;> omega
/-- there is something below: it can be made tight -/
theorem cl_ex (h : shL n a r A) (T : oc_T n S.m) (le : oc_le n S.m A.m) : ∃ B, a_cl A = some B ∧ oc_G n A.m B.m := by
  have hn := h.n
  have up : oc_le n A.m a_top := fun i j hi hj => by
    unfold a_top
    by_cases e : i = j
    · rw [if_pos e, e, h.C.1 j hj]; exact Int.le_refl _
    · rw [if_neg e]; exact h.up i j hi hj e
  have key := oc_cl_ok (n := n) (L := fun _ => true) (c := a_top) (m := A.m) (top_T n) h.C up (fun _ _ _ _ _ => ⟨rfl, rfl⟩)
  cases hc : oc_cl n (fun _ => true) A.m with
  | none => exact absurd le (key.2 hc S.m T)
  | some t =>
    have G := key.1 t hc
    rw [← hn] at G
    obtain ⟨B, b1, -, -, -, -, -, b2, -⟩ := a_cl_some G
    rw [hn] at b2
    exact ⟨B, b1, b2⟩
theorem cl_shp (h : shL n a r A) : shp n a r (a_cl A) := fun B e => by
  have hn := h.n
  have ha := h.a
  subst hn ha
  obtain ⟨o1, o2, o3, -, -, o6⟩ := a_cl_T e h.n12 h.a6 h.up h.e
  exact ⟨o1, o2, o3, fun x hx => by rw [o6]; exact h.r x hx⟩
end SLs
/-! order, pointwise -/
def le_m (n : Nat) (s t : Option ab) : Prop := ∀ A B, s = some A → t = some B → oc_le n A.m B.m
section LOs
variable {G : pgm} {rc : rc3} {f p n a : Nat} {r : Nat → Nat} {S : ab} {h told n1 be : Option ab} {ω : wd}
/-- what a call of rc for a smaller row gives -/
def RH (G : pgm) (f : Nat) (rc : rc3) : Prop := ∀ p e n a r s ω, WB G f p e n a r → shp n a r s → shg n a r (rc p e s ω).1
theorem fo_shp {q : ab → Option ab} {n' a' : Nat} {r' : Nat → Nat} (h1 : ∀ A, shp n a r (some A) → shp n' a' r' (q A)) {s : Option ab} (hs : shp n a r s) (g : Option ab → Option ab) (g0 : g none = none) (g1 : ∀ A, g (some A) = q A) : shp n' a' r' (g s) := by
  cases s with
  | none => rw [g0]; exact shp_n
  | some A => rw [g1]; exact h1 A hs
theorem rnd_shp (R : RH G f rc) (e1 : G.n p = n) (e2 : G.a p = a) (hf : ∀ A, shp n a r (some A) → shp n a r (G.fx p A).1 ∧ shp n a r (G.fx p A).2.1) (w : WB G f (p + 1) (G.E p) n a r) (hS : shp n a r (some S)) (hh : shp n a r h) : (∃ N, (rnd G rc p (some S) h ω).1 = some N) ∧ shp n a r (rnd G rc p (some S) h ω).1 ∧ shp n a r (rnd G rc p (some S) h ω).2.1 ∧ le_m n (some S) (rnd G rc p (some S) h ω).1 := by
  have f1 : shp n a r (fo G p h).1 := fo_shp (fun A hA => (hf A hA).1) hh (fun s => (fo G p s).1) rfl (fun _ => rfl)
  have f2 : shp n a r (fo G p h).2.1 := fo_shp (fun A hA => (hf A hA).2) hh (fun s => (fo G p s).2.1) rfl (fun _ => rfl)
  have q := keep_shp (R (p + 1) (G.E p) n a r _ (wl p h (fo G p h).2.2 ω) w f1)
  unfold rnd
  rw [e1, e2]
  dsimp only
  refine ⟨?_, join_shp hS q, f2, fun A B eA eB => ?_⟩
  · cases o_keep n a (rc (p + 1) (G.E p) (fo G p h).1 (wl p h (fo G p h).2.2 ω)).1 <;> exact ⟨_, rfl⟩
  · cases eA
    cases hk : o_keep n a (rc (p + 1) (G.E p) (fo G p h).1 (wl p h (fo G p h).2.2 ω)).1 with
    | none => rw [hk] at eB; cases eB; exact fun _ _ _ _ => Int.le_refl _
    | some D =>
      rw [hk] at eB
      have e' : a_join S D = B := by injection eB
      rw [← e']
      exact fun i j _ _ => Int.le_max_left _ _
/-- what stands while heads climb -/
abbrev CI (n a : Nat) (r : Nat → Nat) (S : ab) (h told n1 be : Option ab) : Prop := (∃ A, h = some A ∧ shp n a r (some A) ∧ oc_le n S.m A.m) ∧ (∃ A, told = some A ∧ shL n a r A ∧ oc_le n S.m A.m) ∧ (∃ A, n1 = some A ∧ shp n a r (some A)) ∧ (shp n a r be)
theorem CI.iH {n a : Nat} {r : Nat → Nat} {S : ab} {h told n1 be : Option ab} (q : CI n a r S h told n1 be) : ∃ A, h = some A ∧ shp n a r (some A) ∧ oc_le n S.m A.m := q.1
theorem CI.iT {n a : Nat} {r : Nat → Nat} {S : ab} {h told n1 be : Option ab} (q : CI n a r S h told n1 be) : ∃ A, told = some A ∧ shL n a r A ∧ oc_le n S.m A.m := q.2.1
theorem CI.iQ {n a : Nat} {r : Nat → Nat} {S : ab} {h told n1 be : Option ab} (q : CI n a r S h told n1 be) : ∃ A, n1 = some A ∧ shp n a r (some A) := q.2.2.1
theorem CI.iB {n a : Nat} {r : Nat → Nat} {S : ab} {h told n1 be : Option ab} (q : CI n a r S h told n1 be) : shp n a r be := q.2.2.2
theorem CI_next (hS : shp n a r (some S)) (c : CI n a r S h told n1 be) (k : Nat) : (∃ A, (if k ≤ 2 then o_join h n1 else o_cl (o_wid told n1)) = some A ∧ shp n a r (some A) ∧ oc_le n S.m A.m) ∧ ∃ A, (if k ≤ 2 then o_join h n1 else o_wid told n1) = some A ∧ shL n a r A ∧ oc_le n S.m A.m := by
  obtain ⟨A, eA, sA, lA⟩ := c.iH
  obtain ⟨D, eD, sD, lD⟩ := c.iT
  obtain ⟨N, eN, sN⟩ := c.iQ
  subst eA eD eN
  by_cases hk : k ≤ 2
  · rw [if_pos hk, if_pos hk]
    have s := join_shp sA sN
    have l : oc_le n S.m (a_join A N).m := fun i j hi hj => Int.le_trans (lA i j hi hj) (Int.le_max_left _ _)
    exact ⟨⟨a_join A N, rfl, s, l⟩, ⟨a_join A N, rfl, shL_of s, l⟩⟩
  · rw [if_neg hk, if_neg hk]
    have s := shL_wid sD sN
    have TS : oc_T n S.m := by
      obtain ⟨T, e1, -⟩ := hS S rfl
      rw [← e1]; exact T.t
    have l : oc_le n S.m (a_wid D N).m := fun i j hi hj => by
      show S.m i j ≤ (if D.m i j < N.m i j then gI j + gI (oc_b i) else D.m i j)
      have l0 := lD i j hi hj
      split
      · next z =>
        by_cases e : i = j
        · subst e
          have cN : N.m i i = 0 := by
            obtain ⟨T, e1, -⟩ := sN N rfl
            exact T.t.1.1 i (by rw [e1]; exact hi)
          rw [sD.C.1 i hi, cN] at z
          omega
        · have := sD.up i j hi hj e
          omega
      · exact l0
    obtain ⟨B, b1, b2⟩ := cl_ex s TS l
    exact ⟨⟨B, b1, by rw [← b1]; exact cl_shp s, b2.2.2 S.m TS l⟩, ⟨a_wid D N, rfl, s, l⟩⟩
theorem clm_shp (R : RH G f rc) (e1 : G.n p = n) (e2 : G.a p = a) (hf : ∀ A, shp n a r (some A) → shp n a r (G.fx p A).1 ∧ shp n a r (G.fx p A).2.1) (w : WB G f (p + 1) (G.E p) n a r) (hS : shp n a r (some S)) : ∀ g h told n1 be ω mx k, CI n a r S h told n1 be → ∃ told', CI n a r S (clm G rc p (some S) g h told n1 be ω mx k).1 told' (clm G rc p (some S) g h told n1 be ω mx k).2.1 (clm G rc p (some S) g h told n1 be ω mx k).2.2.1 := by
  intro g
  induction g with
  | zero => exact fun h told n1 be ω mx k c => ⟨told, c⟩
  | succ g ih =>
    intro h told n1 be ω mx k c
    unfold clm
    by_cases q : o_le n1 told ∨ 4000 < wW ω
    · rw [if_pos q]; exact ⟨told, c⟩
    · rw [if_neg q]
      obtain ⟨⟨A, a1, a2, a3⟩, t'⟩ := CI_next hS c k
      obtain ⟨⟨N, q1⟩, q2, q3, q4⟩ := rnd_shp (ω := ω) R e1 e2 hf w hS (h := if k ≤ 2 then o_join h n1 else o_cl (o_wid told n1)) (by rw [a1]; exact a2)
      exact ih _ _ _ _ _ _ _ ⟨⟨A, a1, a2, a3⟩, t', ⟨N, q1, by rw [← q1]; exact q2⟩, q3⟩
theorem trs_shp (R : RH G f rc) (e1 : G.n p = n) (e2 : G.a p = a) (hf : ∀ A, shp n a r (some A) → shp n a r (G.fx p A).1 ∧ shp n a r (G.fx p A).2.1) (w : WB G f (p + 1) (G.E p) n a r) (hS : shp n a r (some S)) : ∀ g h n1 be ω mx, (∃ A, h = some A ∧ shp n a r (some A)) → (∃ A, n1 = some A ∧ shp n a r (some A)) → shp n a r be → (∃ A, (trs G rc p (some S) g h n1 be ω mx).1 = some A ∧ shp n a r (some A)) ∧ shp n a r (trs G rc p (some S) g h n1 be ω mx).2.1 := by
  intro g
  induction g with
  | zero => exact fun h n1 be ω mx c1 c2 c3 => ⟨c1, c3⟩
  | succ g ih =>
    intro h n1 be ω mx c1 c2 c3
    unfold trs
    by_cases q : (o_le n1 h ∧ o_le h n1) ∨ 4000 < wW ω
    · rw [if_pos q]; exact ⟨c1, c3⟩
    · rw [if_neg q]
      obtain ⟨⟨N, q1⟩, q2, q3, q4⟩ := rnd_shp (ω := ω) R e1 e2 hf w hS (h := n1) (by obtain ⟨A, a1, a2⟩ := c2; rw [a1]; exact a2)
      dsimp only
      by_cases q' : o_le (rnd G rc p (some S) n1 ω).1 n1
      · rw [if_pos q']; exact ih _ _ _ _ _ c2 ⟨N, q1, by rw [← q1]; exact q2⟩ q3
      · rw [if_neg q']; exact ⟨c1, q3⟩
theorem lop_shp (R : RH G f rc) (e1 : G.n p = n) (e2 : G.a p = a) (hf : ∀ A, shp n a r (some A) → shp n a r (G.fx p A).1 ∧ shp n a r (G.fx p A).2.1) (w : WB G f (p + 1) (G.E p) n a r) (hS : shp n a r (some S)) : shp n a r (lop G rc p (some S) ω).1 := by
  unfold lop
  dsimp only
  obtain ⟨⟨N, q1⟩, q2, q3, q4⟩ := rnd_shp (ω := ω) R e1 e2 hf w hS hS
  have c0 : CI n a r S (some S) (some S) (rnd G rc p (some S) (some S) ω).1 (rnd G rc p (some S) (some S) ω).2.1 := ⟨⟨S, rfl, hS, fun _ _ _ _ => Int.le_refl _⟩, ⟨S, rfl, shL_of hS, fun _ _ _ _ => Int.le_refl _⟩, ⟨N, q1, by rw [← q1]; exact q2⟩, q3⟩
  obtain ⟨told', c⟩ := clm_shp R e1 e2 hf w hS 4001 _ _ _ _ (rnd G rc p (some S) (some S) ω).2.2.1 (4 + (rnd G rc p (some S) (some S) ω).2.2.2) 1 c0
  obtain ⟨A, a1, a2, -⟩ := c.iH
  generalize clm G rc p (some S) 4001 (some S) (some S) (rnd G rc p (some S) (some S) ω).1 (rnd G rc p (some S) (some S) ω).2.1 (rnd G rc p (some S) (some S) ω).2.2.1 (4 + (rnd G rc p (some S) (some S) ω).2.2.2) 1 = cc at *
  obtain ⟨⟨B, b1, b2⟩, b3⟩ := trs_shp R e1 e2 hf w hS 2 cc.1 cc.2.1 cc.2.2.1 cc.2.2.2.1 cc.2.2.2.2 ⟨A, a1, a2⟩ c.iQ c.iB
  generalize trs G rc p (some S) 2 cc.1 cc.2.1 cc.2.2.1 cc.2.2.2.1 cc.2.2.2.2 = tt at *
  split
  · exact b3
  · exact (rnd_shp (ω := tt.2.2.1) R e1 e2 hf w hS (h := tt.1) (by rw [b1]; exact b2)).2.2.1
end LOs
theorem DB_shp (G : pgm) : ∀ f, RH G f (DB G f) := by
  intro f
  induction f with
  | zero => exact fun p e n a r s ω w h => shp_g h
  | succ f ih =>
    intro p e n a r s ω w h
    unfold DB
    by_cases c : p < e ∧ wW ω ≤ 4000
    · rw [if_pos c]
      rcases w with w | ⟨w1, e1, e2, e3, w2, w3, w⟩
      · omega
      · dsimp only
        have key : ∃ n' a' r', n ≤ n' ∧ a ≤ a' ∧ (∀ x, x < a → r' x = r x) ∧ shp n' a' r' (DS G (DB G f) p s ω).1 ∧ WB G f (G.E p) e n' a' r' := by
          unfold DS
          by_cases k4 : G.kd p = 4
          · rw [if_pos k4] at w ⊢
            obtain ⟨n', q1, q2, q3, q4⟩ := w
            have fs : shp n' a r (fo G p s).1 := fo_shp q2 h (fun s => (fo G p s).1) rfl (fun _ => rfl)
            have q := ih (p + 1) (G.E p) n' a r _ (wl p s (fo G p s).2.2 ω) q3 fs
            rw [e1, e2]
            exact ⟨n, a, r, Nat.le_refl _, Nat.le_refl _, fun _ _ => rfl, keep_shp (shg_t q1 (Nat.le_refl _) (fun _ _ => rfl) q), q4⟩
          · rw [if_neg k4] at w ⊢
            by_cases k5 : G.kd p = 5
            · rw [if_pos k5] at w ⊢
              obtain ⟨m1, m2, q2, q3, q4, q5⟩ := w
              have f1 : shp n a r (fo G p s).1 := fo_shp (fun A hA => (q2 A hA).1) h (fun s => (fo G p s).1) rfl (fun _ => rfl)
              have f2 : shp n a r (fo G p s).2.1 := fo_shp (fun A hA => (q2 A hA).2) h (fun s => (fo G p s).2.1) rfl (fun _ => rfl)
              have u1 := keep_shp (ih (p + 1) (G.M p) n a r _ (wl p s (fo G p s).2.2 ω) q3 f1)
              have u2 := keep_shp (ih (G.M p) (G.E p) n a r _ (DB G f (p + 1) (G.M p) (fo G p s).1 (wl p s (fo G p s).2.2 ω)).2.1 q4 f2)
              rw [e1, e2]
              exact ⟨n, a, r, Nat.le_refl _, Nat.le_refl _, fun _ _ => rfl, join_shp u1 u2, q5⟩
            · rw [if_neg k5] at w ⊢
              by_cases k6 : G.kd p = 6
              · rw [if_pos k6] at w ⊢
                obtain ⟨q2, q3, q4⟩ := w
                cases s with
                | none => exact ⟨n, a, r, Nat.le_refl _, Nat.le_refl _, fun _ _ => rfl, shp_n, q4⟩
                | some S => exact ⟨n, a, r, Nat.le_refl _, Nat.le_refl _, fun _ _ => rfl, lop_shp ih e1 e2 q2 q3 h, q4⟩
              · rw [if_neg k6] at w ⊢
                obtain ⟨-, n', a', r', q1, q2, q3, q4, q5⟩ := w
                exact ⟨n', a', r', q1, q2, q3, fo_shp q4 h (fun s => (fo G p s).1) rfl (fun _ => rfl), q5⟩
        obtain ⟨n', a', r', k1, k2, k3, k4, k5⟩ := key
        exact shg_t k1 k2 k3 (ih (G.E p) e n' a' r' _ (DS G (DB G f) p s ω).2.1 k5 k4)
    · rw [if_neg c]; exact shp_g h
