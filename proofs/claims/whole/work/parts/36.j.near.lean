set_option maxRecDepth 100000
/-! how far the ranges of parts can lie -/
abbrev PB (A : ab) (ps : List pa) : Prop := (∀ i, i < ps.length → -2147483648 ≤ pqL ps i ∧ pqL ps i ≤ 2147483648 ∧ -2147483648 ≤ pqH ps i ∧ pqH ps i ≤ 2147483648) ∧ (∀ i, i < ps.length → pqN ps i = true → pqL ps i = pqH ps i) ∧ (∀ i j, i < ps.length → j < ps.length → pqF ps i = true → pqF ps j = true → -4294967296 ≤ a_gr A (pqU ps i) (pqU ps j) ∧ a_gr A (pqU ps i) (pqU ps j) ≤ 4294967296 ∧ -4294967296 ≤ a_gr A (oc_b (pqU ps i)) (oc_b (pqU ps j)) ∧ a_gr A (oc_b (pqU ps i)) (oc_b (pqU ps j)) ≤ 4294967296) ∧ (ps.length ≤ 12000)
theorem PB.r {A : ab} {ps : List pa} (q : PB A ps) : ∀ i, i < ps.length → -2147483648 ≤ pqL ps i ∧ pqL ps i ≤ 2147483648 ∧ -2147483648 ≤ pqH ps i ∧ pqH ps i ≤ 2147483648 := q.1
theorem PB.n {A : ab} {ps : List pa} (q : PB A ps) : ∀ i, i < ps.length → pqN ps i = true → pqL ps i = pqH ps i := q.2.1
theorem PB.g {A : ab} {ps : List pa} (q : PB A ps) : ∀ i j, i < ps.length → j < ps.length → pqF ps i = true → pqF ps j = true → -4294967296 ≤ a_gr A (pqU ps i) (pqU ps j) ∧ a_gr A (pqU ps i) (pqU ps j) ≤ 4294967296 ∧ -4294967296 ≤ a_gr A (oc_b (pqU ps i)) (oc_b (pqU ps j)) ∧ a_gr A (oc_b (pqU ps i)) (oc_b (pqU ps j)) ≤ 4294967296 := q.2.2.1
theorem PB.m {A : ab} {ps : List pa} (q : PB A ps) : ps.length ≤ 12000 := q.2.2.2
section PBs
variable {A : ab} {ps : List pa} {sk : Nat → Bool} {a b : Int}
theorem sI_del {f : Nat → Int} {i : Nat} : ∀ n, i < n → sI f n = sI (fun k => if k = i then 0 else f k) n + f i := by
  intro n
  induction n with
  | zero => intro h; omega
  | succ n ih =>
    intro h
    rw [sI_1, sI_1]
    by_cases c : i = n
    · subst c
      rw [if_pos rfl, sI_cong (f := f) (g := fun k => if k = i then 0 else f k) i (fun k hk => by rw [if_neg (by omega)])]
      omega
    · rw [ih (by omega), if_neg (fun z => c z.symm)]
      omega
theorem pb_split (B : PB A ps) (hk : ∀ i, i < ps.length → sk i = true → pqN ps i = false) : sI (fun i => if sk i = true then 0 else pqL ps i) ps.length = pqX ps + sI (fun i => if pqC ps sk i = true then pqL ps i else 0) ps.length ∧ sI (fun i => if sk i = true then 0 else pqH ps i) ps.length = pqX ps + sI (fun i => if pqC ps sk i = true then pqH ps i else 0) ps.length := by
  unfold pqX
  rw [← sI_add, ← sI_add]
  refine ⟨sI_cong _ (fun i hi => ?_), sI_cong _ (fun i hi => ?_)⟩
  · unfold pqC
    cases s : sk i with
    | true => rw [hk i hi s]; simp
    | false => cases q : pqN ps i <;> simp
  · unfold pqC
    cases s : sk i with
    | true => rw [hk i hi s]; simp
    | false =>
      cases q : pqN ps i with
      | true => simp; exact (B.n i hi q).symm
      | false => simp
theorem pb_cnt (B : PB A ps) : (-(2147483648 * (n64 (pqC ps sk) ps.length : Int)) ≤ sI (fun i => if pqC ps sk i = true then pqL ps i else 0) ps.length ∧ sI (fun i => if pqC ps sk i = true then pqL ps i else 0) ps.length ≤ 2147483648 * (n64 (pqC ps sk) ps.length : Int)) ∧ (-(2147483648 * (n64 (pqC ps sk) ps.length : Int)) ≤ sI (fun i => if pqC ps sk i = true then pqH ps i else 0) ps.length ∧ sI (fun i => if pqC ps sk i = true then pqH ps i else 0) ps.length ≤ 2147483648 * (n64 (pqC ps sk) ps.length : Int)) := by
  exact ⟨sI_cnt (by omega) _ (fun i hi _ => by have := B.r i hi; omega), sI_cnt (by omega) _ (fun i hi _ => by have := B.r i hi; omega)⟩
/-- near the sum of the NUMBERs -/
theorem OT_near (B : PB A ps) (hk : ∀ i, i < ps.length → sk i = true → pqN ps i = false) (h : OT (a_gr A) ps sk a b) : (pqX ps - 2147483648 * (n64 (pqC ps sk) ps.length : Int) ≤ a ∧ a ≤ pqX ps + 2147483648 * (n64 (pqC ps sk) ps.length : Int)) ∧ (pqX ps - 2147483648 * (n64 (pqC ps sk) ps.length : Int) ≤ b ∧ b ≤ pqX ps + 2147483648 * (n64 (pqC ps sk) ps.length : Int)) := by
  by_cases c : pq2 ps sk
  · obtain ⟨i, j, ij, hj, ci, cj⟩ := n64_2 c.1
    obtain ⟨e1, e2⟩ := h.1 c i j ij hj ci cj
    have := B.g i j (by omega) hj (c.2 i (by omega) ci) (c.2 j hj cj)
    rw [e1, e2, c.1]
    omega
  · obtain ⟨e1, e2⟩ := h.2 c
    obtain ⟨s1, s2⟩ := pb_split B hk
    obtain ⟨q1, q2⟩ := pb_cnt (sk := sk) B
    rw [e1, e2, s1, s2]
    omega
theorem pqX_b (B : PB A ps) : -25769803776000 ≤ pqX ps ∧ pqX ps ≤ 25769803776000 := by
  have := sI_cnt (f := pqL ps) (b := pqN ps) (B := 2147483648) (by omega) ps.length (fun i hi _ => by have := B.r i hi; omega)
  have le := n64_le (b := pqN ps) ps.length
  have m := B.m
  unfold pqX
  omega
/-- where the SUM's range is something, the range of all but one free part isn't far -/
theorem set_b (B : PB A ps) {i : Nat} (hi : i < ps.length) (fi : pqF ps i = true) (h : OT (a_gr A) ps (sk1 i) a b) : (-2147483648 ≤ sI (pqH ps) ps.length → -12884901888 ≤ b) ∧ (sI (pqL ps) ps.length ≤ 2147483648 → a ≤ 12884901888) := by
  have hk : ∀ k, k < ps.length → sk1 i k = true → pqN ps k = false := fun k _ z => by
    have := of_decide_eq_true z
    rw [this]; exact pqF_N fi
  have r := B.r i hi
  have d1 := sI_del (f := pqL ps) ps.length hi
  have d2 := sI_del (f := pqH ps) ps.length hi
  have c1 : sI (fun k => if k = i then 0 else pqL ps k) ps.length = sI (fun k => if sk1 i k = true then 0 else pqL ps k) ps.length := sI_cong _ (fun k _ => by
    unfold sk1
    by_cases c : k = i
    · rw [if_pos c, if_pos (decide_eq_true c)]
    · rw [if_neg c, if_neg (by rw [decide_eq_false c]; decide)])
  have c2 : sI (fun k => if k = i then 0 else pqH ps k) ps.length = sI (fun k => if sk1 i k = true then 0 else pqH ps k) ps.length := sI_cong _ (fun k _ => by
    unfold sk1
    by_cases c : k = i
    · rw [if_pos c, if_pos (decide_eq_true c)]
    · rw [if_neg c, if_neg (by rw [decide_eq_false c]; decide)])
  obtain ⟨s1, s2⟩ := pb_split B hk
  obtain ⟨q1, q2⟩ := pb_cnt (sk := sk1 i) B
  obtain ⟨n1, n2⟩ := OT_near B hk h
  by_cases c : pq2 ps (sk1 i)
  · rw [c.1] at *
    constructor <;> intro z <;> omega
  · obtain ⟨e1, e2⟩ := h.2 c
    constructor <;> intro z <;> omega
/-- likewise of all but two, where f <= c can be -/
theorem meet_b (B : PB A ps) {i j : Nat} (hi : i < ps.length) (hj : j < ps.length) (fi : pqF ps i = true) (fj : pqF ps j = true) {a0 b0 c : Int} (h0 : OT (a_gr A) ps sk0 a0 b0) (h : OT (a_gr A) ps (sk2 i j) a b) : (a0 ≤ c → -12884901888 ≤ c - a) ∧ (-b0 ≤ c → -12884901888 ≤ c + b) := by
  have hk : ∀ k, k < ps.length → sk2 i j k = true → pqN ps k = false := fun k _ z => by
    rcases of_decide_eq_true z with e | e
    · rw [e]; exact pqF_N fi
    · rw [e]; exact pqF_N fj
  have hk0 : ∀ k, k < ps.length → sk0 k = true → pqN ps k = false := fun k _ z => by cases z
  have ri := B.r i hi
  have rj := B.r j hj
  have le : n64 (pqC ps (sk2 i j)) ps.length ≤ n64 (pqC ps sk0) ps.length := (n64_sub _ (fun k _ z => by
    unfold pqC at z ⊢
    rw [Bool.and_eq_true] at z
    rw [z.2]; rfl)).1
  obtain ⟨n1, n2⟩ := OT_near B hk h
  obtain ⟨n3, n4⟩ := OT_near B hk0 h0
  by_cases c0 : pq2 ps sk0
  · have e0 := c0.1
    constructor <;> intro z <;> omega
  · obtain ⟨e1, e2⟩ := h0.2 c0
    have z1 : sI (fun k => if sk0 k = true then 0 else pqL ps k) ps.length = sI (pqL ps) ps.length := sI_cong _ (fun k _ => rfl)
    have z2 : sI (fun k => if sk0 k = true then 0 else pqH ps k) ps.length = sI (pqH ps) ps.length := sI_cong _ (fun k _ => rfl)
    rw [z1] at e1
    rw [z2] at e2
    -- what the two take away
    have two : ∀ f : Nat → Int, (∀ k, k < ps.length → -2147483648 ≤ f k ∧ f k ≤ 2147483648) → sI f ps.length - 4294967296 ≤ sI (fun k => if sk2 i j k = true then 0 else f k) ps.length ∧ sI (fun k => if sk2 i j k = true then 0 else f k) ps.length ≤ sI f ps.length + 4294967296 := fun f hf => by
      have d1 := sI_del (f := f) ps.length hi
      have d2 := sI_del (f := fun k => if k = i then 0 else f k) ps.length hj
      have e3 : sI (fun k => if k = j then 0 else if k = i then 0 else f k) ps.length = sI (fun k => if sk2 i j k = true then 0 else f k) ps.length := sI_cong _ (fun k _ => by
        unfold sk2
        by_cases c1 : k = j
        · rw [if_pos c1, if_pos (decide_eq_true (Or.inr c1))]
        · by_cases c2 : k = i
          · rw [if_neg c1, if_pos c2, if_pos (decide_eq_true (Or.inl c2))]
          · rw [if_neg c1, if_neg c2, if_neg (by rw [decide_eq_false (fun z => z.elim c2 c1)]; decide)])
      have h1 := hf i hi
      have h2 := hf j hj
      try dsimp only at d2
      by_cases c3 : j = i
      · rw [if_pos c3] at d2; omega
      · rw [if_neg c3] at d2; omega
    have t1 := two (pqL ps) (fun k hk => by have := B.r k hk; omega)
    have t2 := two (pqH ps) (fun k hk => by have := B.r k hk; omega)
    by_cases c2 : pq2 ps (sk2 i j)
    · obtain ⟨s1, s2⟩ := pb_split B hk
      obtain ⟨q1, q2⟩ := pb_cnt (sk := sk2 i j) B
      rw [c2.1] at *
      constructor <;> intro z <;> omega
    · obtain ⟨e5, e6⟩ := h.2 c2
      constructor <;> intro z <;> omega
end PBs
theorem LQ_PB {sN : Int → Prop} {en : Int → Nat} {A : ab} {l : List (Nat × Bool × tr)} (hT : ab_T A) (R : LQ sN en A l) (hm : l.length ≤ 12000) : PB A (l.map (pgE en A)) := by
  have LL : (l.map (pgE en A)).length = l.length := List.length_map _
  refine ⟨fun i hi => ?_, fun i hi hn => ?_, fun i j hi hj fi fj => ?_, by rw [LL]; exact hm⟩
  · rw [LL] at hi
    have := (LQ_pq hT R hi).1
    omega
  · rw [LL] at hi
    obtain ⟨n, cs, r, x, y, ht, hq, ix, iy, ixy, hv, hw, hn'⟩ := LQ_at hT R hi
    have e := of_decide_eq_true hn
    unfold pqS at e
    rw [hq] at e
    have k12 := pk_1.mp e
    rw [ev_12 k12] at hv
    cases hv
    unfold pqL pqH
    rw [hq]
  · rw [LL] at hi hj
    have wi := of_decide_eq_true fi
    have wj := of_decide_eq_true fj
    obtain ⟨-, u1, -, -⟩ := (LQ_pq hT R hi).2 wi.1
    obtain ⟨-, u2, -, -⟩ := (LQ_pq hT R hj).2 wj.1
    have g1 := a_gr_r hT u1 u2
    have g2 := a_gr_r hT (oc_bl u1) (oc_bl u2)
    exact ⟨g1.1, g1.2, g2.1, g2.2⟩
