set_option maxRecDepth 100000
/-! what x = SUM leaves is in order -/
section SOK
variable {sN : Int → Prop} {en : Int → Nat} {A B D : ab} {x : Nat} {new : Bool} {t : tr} {ps : List pa}
theorem b_2 (i : Nat) : oc_b i / 2 = i / 2 := by unfold oc_b; split <;> omega
theorem b_ne (i : Nat) : ¬ i = oc_b i := by unfold oc_b; split <;> omega
theorem frm_o {i y : Nat} {m : oc_M} (h : i / 2 ≠ y) : a_frm y m i (oc_b i) = m i (oc_b i) := by
  unfold a_frm
  rw [if_neg (by have := b_2 i; omega)]
theorem base_f : (a_base A B ps x new).n = (if new = true then B.n + 1 else B.n) ∧ (a_base A B ps x new).a = B.a ∧ (a_base A B ps x new).lo = B.lo ∧ (a_base A B ps x new).hi = B.hi ∧ (a_base A B ps x new).rm = B.rm := by
  unfold a_base
  cases new with
  | true => exact ⟨rfl, rfl, rfl, rfl, rfl⟩
  | false =>
    rw [if_neg (by decide)]
    cases ownI ps x ps.length with
    | none => exact ⟨rfl, rfl, rfl, rfl, rfl⟩
    | some i =>
      dsimp only
      split <;> exact ⟨rfl, rfl, rfl, rfl, rfl⟩
theorem base_m (hx1 : new = true → x = B.n) {i : Nat} (hi : i / 2 ≠ x) : (a_base A B ps x new).m i (oc_b i) = B.m i (oc_b i) := by
  have e2 : a_sa x 0 0 = a_sa x 0 0 := rfl
  have sa : ∀ l u, a_sa x l u i = 0 := fun l u => by unfold a_sa; rw [if_neg (by omega), if_neg (by omega)]
  have bb : oc_b (oc_b i) = i := oc_bb i
  have b2 := b_2 i
  unfold a_base
  cases new with
  | true => rw [if_pos rfl]; exact frm_o (by rw [← hx1 rfl]; exact hi)
  | false =>
    rw [if_neg (by decide)]
    cases ownI ps x ps.length with
    | none => exact frm_o hi
    | some k =>
      have tn : (if (pq ps k).1 = true then a_turn x B else B).m i (oc_b i) = B.m i (oc_b i) := by
        split
        · show B.m (ng_t x i) (ng_t x (oc_b i)) = B.m i (oc_b i)
          have e1 : ng_t x i = i := by unfold ng_t; rw [if_neg (by omega)]
          have e3 : ng_t x (oc_b i) = oc_b i := by unfold ng_t; rw [if_neg (by omega)]
          rw [e1, e3]
        · rfl
      show (if (pq ps k).1 = true then a_turn x B else B).m i (oc_b i) + (if i = oc_b i then 0 else a_sa x _ _ i + a_sa x _ _ (oc_b (oc_b i))) = B.m i (oc_b i)
      rw [tn, if_neg (b_ne i), bb, sa]; omega
theorem set_ok (hT : ab_T A) (hB : ab_T B) (w : wS sN en A t false) (hx1 : new = true → x = B.n ∧ B.n < 12) (hx0 : new = false → x < B.n) (e : a_set en A B x new t = some D) : ab_T D ∧ D.n = (if new = true then B.n + 1 else B.n) ∧ D.a = B.a ∧ D.rm = B.rm ∧ D.lo = B.lo ∧ D.hi = B.hi := by
  unfold a_set at e
  cases h1 : (ev en A t none).1 with
  | none => rw [h1] at e; cases e
  | some q =>
    rw [h1] at e
    obtain ⟨⟨u1, u2⟩, ⟨v1, v2⟩, u3⟩ := (ev_in (sN := sN) hT t).1 w q.1 q.2 (by rw [h1])
    have e' : a_setP A B (pt en A t false false) x new q.1 q.2 = some D := e
    unfold a_setP at e'
    obtain ⟨f1, f2, f3, f4, f5⟩ := base_f (A := A) (B := B) (ps := pt en A t false false) (x := x) (new := new)
    obtain ⟨g1, g2, g3, g4, g5⟩ := lims_f (setL A (pt en A t false false) (fun i => !new && ownB (pt en A t false false) x i) x (pt en A t false false).length ++ [(2 * x, 2 * x, q.2), (2 * x + 1, 2 * x + 1, -q.1)]) (a_base A B (pt en A t false false) x new)
    have n12 := hB.n12
    obtain ⟨o1, o2, o3, o4, o5, o6, -⟩ := a_cl_T2 e' (by
        rw [g1, f1]
        cases new with
        | true => have := hx1 rfl; rw [if_pos rfl]; omega
        | false => rw [if_neg (by decide)]; exact n12) (by rw [g2, f2]; exact hB.a6) (fun i hi => by
      have lim := (lims_le (i := i) (j := oc_b i) (setL A (pt en A t false false) (fun i => !new && ownB (pt en A t false false) x i) x (pt en A t false false).length ++ [(2 * x, 2 * x, q.2), (2 * x + 1, 2 * x + 1, -q.1)]) (a_base A B (pt en A t false false) x new) _).mp (Int.le_refl _)
      have b0 := oc_b0 x
      have b1 := oc_b1 x
      by_cases c : i / 2 = x
      · by_cases c0 : i = 2 * x
        · have l2 := lim.2 (2 * x + 1, 2 * x + 1, -q.1) (by simp) (Or.inl ⟨by rw [b1]; exact c0, by rw [c0, b0]⟩)
          have e3 : lmV (2 * x + 1, 2 * x + 1, -q.1) = 2 * -q.1 := if_pos rfl
          have e4 : gI (oc_b i) = 2147483648 := by rw [c0, b0]; unfold gI; rw [if_neg (by omega)]
          rw [e3] at l2
          rw [e4]; omega
        · have c1 : i = 2 * x + 1 := by omega
          have l2 := lim.2 (2 * x, 2 * x, q.2) (by simp) (Or.inl ⟨by rw [b0]; exact c1, by rw [c1, b1]⟩)
          have e3 : lmV (2 * x, 2 * x, q.2) = 2 * q.2 := if_pos rfl
          have e4 : gI (oc_b i) = 2147483647 := by rw [c1, b1]; unfold gI; rw [if_pos (by omega)]
          rw [e3] at l2
          rw [e4]; omega
      · have l1 := lim.1
        rw [base_m (fun z => (hx1 z).1) c] at l1
        rw [g1, f1] at hi
        have hi' : i < 2 * B.n := by
          cases new with
          | true => have := hx1 rfl; rw [if_pos rfl] at hi; omega
          | false => rw [if_neg (by decide)] at hi; exact hi
        have up := hB.up i (oc_b i) hi' (oc_bl hi') (b_ne i)
        omega) (fun y hy => by
      rw [g2, f2] at hy
      rw [g3, g4, f3, f4]; exact hB.e y hy)
    exact ⟨o1, by rw [o2, g1, f1], by rw [o3, g2, f2], by rw [o6, g5, f5], by rw [o4, g3, f3], by rw [o5, g4, f4]⟩
end SOK
/-- var x; -/
noncomputable def a_zero (A : ab) : Option ab := a_cl (a_lims [(2 * A.n, 2 * A.n, 0), (2 * A.n + 1, 2 * A.n + 1, 0)] (a_add A))
theorem zero_b {A : ab} (hT : ab_T A) (hn : A.n < 12) : ∀ i j, i < 2 * (A.n + 1) → j < 2 * (A.n + 1) → -34359738368 ≤ (a_lims [(2 * A.n, 2 * A.n, 0), (2 * A.n + 1, 2 * A.n + 1, 0)] (a_add A)).m i j ∧ (a_lims [(2 * A.n, 2 * A.n, 0), (2 * A.n + 1, 2 * A.n + 1, 0)] (a_add A)).m i j ≤ 1125899906842624 := fun i j hi hj => by
  have T1 := T_add hT hn
  have b := T1.lo2 (i := i) (j := j) hi hj
  constructor
  · refine (lims_le _ _ _).mpr ⟨by omega, fun c hc w => ?_⟩
    simp only [List.mem_cons, List.not_mem_nil, or_false] at hc
    rcases hc with e | e <;> (rw [e]; unfold lmV; split <;> simp)
  · have := ((lims_le (i := i) (j := j) [(2 * A.n, 2 * A.n, 0), (2 * A.n + 1, 2 * A.n + 1, 0)] (a_add A) _).mp (Int.le_refl _)).1
    omega
theorem zero_ok {A D : ab} (hT : ab_T A) (hn : A.n < 12) (e : a_zero A = some D) : ab_T D ∧ D.n = A.n + 1 ∧ D.a = A.a ∧ D.rm = A.rm ∧ D.lo = A.lo ∧ D.hi = A.hi := by
  have T1 := T_add hT hn
  obtain ⟨g1, g2, g3, g4, g5⟩ := lims_f [(2 * A.n, 2 * A.n, 0), (2 * A.n + 1, 2 * A.n + 1, 0)] (a_add A)
  obtain ⟨o1, o2, o3, o4, o5, o6, -⟩ := a_cl_T2 e (by rw [g1]; exact T1.n12) (by rw [g2]; exact T1.a6) (fun i hi => by
    rw [g1] at hi
    have := ((lims_le (i := i) (j := oc_b i) [(2 * A.n, 2 * A.n, 0), (2 * A.n + 1, 2 * A.n + 1, 0)] (a_add A) _).mp (Int.le_refl _)).1
    have up := T1.up i (oc_b i) hi (oc_bl hi) (b_ne i)
    omega) (fun y hy => by
    rw [g2] at hy
    rw [g3, g4]; exact T1.e y hy)
  exact ⟨o1, by rw [o2, g1]; rfl, by rw [o3, g2]; rfl, by rw [o6, g5]; rfl, by rw [o4, g3]; rfl, by rw [o5, g4]; rfl⟩
/-- the SUMs of a call, one after the other, each by what was known before the call: n slots are there -/
noncomputable def a_call (en : Int → Nat) (A : ab) : tr → Option ab → Option ab × Int32
  | .leaf _, O => (O, 0)
  | .branch _ _ _, none => (none, 0)
  | .branch n cs r, some B => ((a_call en A r (a_set en A B B.n true (.branch n cs r))).1, (ev en A (.branch n cs r) none).2 ||| (a_call en A r (a_set en A B B.n true (.branch n cs r))).2)
/-- how many nodes a row has -/
def tl : tr → Nat
  | .leaf _ => 0
  | .branch _ _ r => 1 + tl r
theorem call_n {en : Int → Nat} {A : ab} : ∀ t, a_call en A t none = (none, 0) := fun t => by cases t <;> rfl
/-- all SUMs of a row are in order -/
def wR (sN : Int → Prop) (en : Int → Nat) (A : ab) : tr → Prop
  | .leaf _ => True
  | .branch n cs r => wS sN en A (.branch n cs r) false ∧ wR sN en A r
theorem call_ok {sN : Int → Prop} {en : Int → Nat} {A : ab} (hT : ab_T A) : ∀ t O, wR sN en A t → (∀ B, O = some B → ab_T B ∧ B.a = A.a ∧ B.rm = A.rm ∧ B.n + tl t ≤ 12) → ∀ D, (a_call en A t O).1 = some D → ab_T D ∧ D.a = A.a ∧ D.rm = A.rm ∧ ∃ B, O = some B ∧ D.n = B.n + tl t := by
  intro t
  induction t with
  | leaf u =>
    intro O _ h D e
    have := h D e
    exact ⟨this.1, this.2.1, this.2.2.1, D, e, rfl⟩
  | branch n cs r _ ih =>
    intro O w h D e
    cases O with
    | none => cases e
    | some B =>
      obtain ⟨T, q1, q2, q3⟩ := h B rfl
      have tlb : tl (.branch n cs r) = 1 + tl r := rfl
      obtain ⟨o1, o2, o3, B', e', o4⟩ := ih (a_set en A B B.n true (.branch n cs r)) w.2 (fun B' e' => by
        obtain ⟨s1, s2, s3, s4, -⟩ := set_ok (new := true) hT T w.1 (fun _ => ⟨rfl, by omega⟩) (fun z => by cases z) e'
        rw [if_pos rfl] at s2
        exact ⟨s1, s3.trans q1, s4.trans q2, by omega⟩) D e
      obtain ⟨s1, s2, -⟩ := set_ok (new := true) hT T w.1 (fun _ => ⟨rfl, by omega⟩) (fun z => by cases z) e'
      rw [if_pos rfl] at s2
      exact ⟨o1, o2, o3, B, rfl, by omega⟩
