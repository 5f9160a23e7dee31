set_option maxRecDepth 100000
/-! x = SUM: what it is laid on, how far its limits lie -/
abbrev SO (A B : ab) (ps : List pa) (x : Nat) (new : Bool) (lo hi : Int) : Prop := (ab_T A) ∧ (ab_T B) ∧ (PB A ps) ∧ (sI (pqL ps) ps.length ≤ 2147483648) ∧ (-2147483648 ≤ sI (pqH ps) ps.length) ∧ (∀ i, i < ps.length → pqL ps i ≤ pqH ps i) ∧ (∀ i, i < ps.length → pqF ps i = true → pqU ps i < 2 * A.n) ∧ (A.n ≤ B.n) ∧ (new = true → x = B.n ∧ B.n < 12) ∧ (new = false → x < B.n) ∧ (iI lo) ∧ (iI hi)
theorem SO.A {A B : ab} {ps : List pa} {x : Nat} {new : Bool} {lo hi : Int} (q : SO A B ps x new lo hi) : ab_T A := q.1
theorem SO.B {A B : ab} {ps : List pa} {x : Nat} {new : Bool} {lo hi : Int} (q : SO A B ps x new lo hi) : ab_T B := q.2.1
theorem SO.pb {A B : ab} {ps : List pa} {x : Nat} {new : Bool} {lo hi : Int} (q : SO A B ps x new lo hi) : PB A ps := q.2.2.1
theorem SO.L {A B : ab} {ps : List pa} {x : Nat} {new : Bool} {lo hi : Int} (q : SO A B ps x new lo hi) : sI (pqL ps) ps.length ≤ 2147483648 := q.2.2.2.1
theorem SO.H {A B : ab} {ps : List pa} {x : Nat} {new : Bool} {lo hi : Int} (q : SO A B ps x new lo hi) : -2147483648 ≤ sI (pqH ps) ps.length := q.2.2.2.2.1
theorem SO.le {A B : ab} {ps : List pa} {x : Nat} {new : Bool} {lo hi : Int} (q : SO A B ps x new lo hi) : ∀ i, i < ps.length → pqL ps i ≤ pqH ps i := q.2.2.2.2.2.1
theorem SO.U {A B : ab} {ps : List pa} {x : Nat} {new : Bool} {lo hi : Int} (q : SO A B ps x new lo hi) : ∀ i, i < ps.length → pqF ps i = true → pqU ps i < 2 * A.n := q.2.2.2.2.2.2.1
theorem SO.n {A B : ab} {ps : List pa} {x : Nat} {new : Bool} {lo hi : Int} (q : SO A B ps x new lo hi) : A.n ≤ B.n := q.2.2.2.2.2.2.2.1
theorem SO.x1 {A B : ab} {ps : List pa} {x : Nat} {new : Bool} {lo hi : Int} (q : SO A B ps x new lo hi) : new = true → x = B.n ∧ B.n < 12 := q.2.2.2.2.2.2.2.2.1
theorem SO.x0 {A B : ab} {ps : List pa} {x : Nat} {new : Bool} {lo hi : Int} (q : SO A B ps x new lo hi) : new = false → x < B.n := q.2.2.2.2.2.2.2.2.2.1
theorem SO.i1 {A B : ab} {ps : List pa} {x : Nat} {new : Bool} {lo hi : Int} (q : SO A B ps x new lo hi) : iI lo := q.2.2.2.2.2.2.2.2.2.2.1
theorem SO.i2 {A B : ab} {ps : List pa} {x : Nat} {new : Bool} {lo hi : Int} (q : SO A B ps x new lo hi) : iI hi := q.2.2.2.2.2.2.2.2.2.2.2
theorem pqU_h {ps : List pa} {i : Nat} : pqU ps i / 2 = (pqS ps i).toNat := by unfold pqU; split <;> omega
theorem OT_abs {A : ab} {ps : List pa} {sk : Nat → Bool} {a b : Int} (B : PB A ps) (hk : ∀ i, i < ps.length → sk i = true → pqN ps i = false) (h : OT (a_gr A) ps sk a b) : -51539607552000 ≤ a ∧ a ≤ 51539607552000 ∧ -51539607552000 ≤ b ∧ b ≤ 51539607552000 := by
  have := OT_near B hk h
  have := pqX_b B
  have := n64_le (b := pqC ps sk) ps.length
  have := B.m
  omega
section SOs
variable {A B : ab} {ps : List pa} {x : Nat} {new : Bool} {lo hi : Int}
theorem SO.ot (S : SO A B ps x new lo hi) {i : Nat} (hi' : i < ps.length) (fi : pqF ps i = true) : -12884901888 ≤ (otV A ps (sk1 i)).2 ∧ (otV A ps (sk1 i)).1 ≤ 12884901888 ∧ (otV A ps (sk1 i)).1 ≤ (otV A ps (sk1 i)).2 ∧ -51539607552000 ≤ (otV A ps (sk1 i)).1 ∧ (otV A ps (sk1 i)).2 ≤ 51539607552000 := by
  have o := otV_OT (A := A) (ps := ps) (sk := sk1 i)
  have b := set_b S.pb hi' fi o
  have l := OT_le S.A S.le S.U o
  have ab := OT_abs S.pb (fun k _ z => by rw [of_decide_eq_true z]; exact pqF_N fi) o
  exact ⟨b.1 S.H, b.2 S.L, l, ab.1, ab.2.2.2⟩
theorem ng_lt {s i n : Nat} (h : i < 2 * n) : ng_t s i < 2 * n := by
  have := ng_th s i
  omega
theorem turn_b (hB : ab_T B) {b : Bool} {i j : Nat} (hi : i < 2 * B.n) (hj : j < 2 * B.n) : -4294967296 ≤ (if b = true then a_turn x B else B).m i j ∧ (if b = true then a_turn x B else B).m i j ≤ 4294967296 := by
  cases b with
  | true => exact hB.lo2 (ng_lt hi) (ng_lt hj)
  | false => exact hB.lo2 hi hj
theorem turn_T (hB : ab_T B) {b : Bool} (hx : x < B.n) : oc_T B.n (if b = true then a_turn x B else B).m ∧ (if b = true then a_turn x B else B).n = B.n := by
  cases b with
  | true => exact ⟨a_turn_T hB.t hx, rfl⟩
  | false => exact ⟨hB.t, rfl⟩
theorem shift_b {m : oc_M} {l u : Int} {n i j : Nat} (hm : -4294967296 ≤ m i j ∧ m i j ≤ 4294967296) (h1 : -12884901888 ≤ u) (h2 : l ≤ 12884901888) (h3 : -51539607552000 ≤ l) (h4 : u ≤ 51539607552000) : -30064771072 ≤ m i j + (if i = j then 0 else a_sa x l u i + a_sa x l u (oc_b j)) ∧ m i j + (if i = j then 0 else a_sa x l u i + a_sa x l u (oc_b j)) ≤ 300000000000000 := by
  unfold a_sa
  repeat' split
  all_goals omega
/-- what it is laid on is tight, and not far -/
theorem SO.base (S : SO A B ps x new lo hi) : (a_base A B ps x new).n = (if new = true then B.n + 1 else B.n) ∧ (a_base A B ps x new).a = B.a ∧ (a_base A B ps x new).lo = B.lo ∧ (a_base A B ps x new).hi = B.hi ∧ (a_base A B ps x new).rm = B.rm ∧ oc_T (a_base A B ps x new).n (a_base A B ps x new).m ∧ (∀ i j, i < 2 * (a_base A B ps x new).n → j < 2 * (a_base A B ps x new).n → -30064771072 ≤ (a_base A B ps x new).m i j ∧ (a_base A B ps x new).m i j ≤ 300000000000000) ∧ (∀ i, i < 2 * (a_base A B ps x new).n → i / 2 ≠ x → (a_base A B ps x new).m (oc_b i) i ≤ 4294967296) := by
  cases new with
  | true =>
    obtain ⟨x1, x2⟩ := S.x1 rfl
    have T := T_add S.B x2
    have e : a_base A B ps x true = a_add B := if_pos rfl
    rw [e]
    exact ⟨rfl, rfl, rfl, rfl, rfl, T.t, fun i j hi hj => by have := T.lo2 hi hj; omega, fun i hi _ => (T.lo2 (oc_bl hi) hi).2⟩
  | false =>
    have x0 := S.x0 rfl
    cases ho : ownI ps x ps.length with
    | none =>
      have T := T_free S.B x0
      have e : a_base A B ps x false = a_free x B := by
        unfold a_base
        rw [if_neg (by decide), ho]
      rw [e]
      exact ⟨rfl, rfl, rfl, rfl, rfl, T.t, fun i j hi hj => by have := T.lo2 hi hj; omega, fun i hi _ => (T.lo2 (oc_bl hi) hi).2⟩
    | some k =>
      obtain ⟨k1, k2⟩ := ownI_s _ ho
      have fk : pqF ps k = true := (Bool.and_eq_true _ _ ▸ k2 : _ ∧ _).1
      obtain ⟨b1, b2, b3, b4, b5⟩ := S.ot k1 fk
      have e : a_base A B ps x false = a_shift x (otV A ps (sk1 k)).1 (otV A ps (sk1 k)).2 (if (pq ps k).1 = true then a_turn x B else B) := by
        unfold a_base
        rw [if_neg (by decide), ho]
      rw [e]
      obtain ⟨t1, t2⟩ := turn_T (b := (pq ps k).1) S.B x0
      have f : ∀ C : ab, (a_shift x (otV A ps (sk1 k)).1 (otV A ps (sk1 k)).2 C).n = C.n := fun C => rfl
      rw [f, t2]
      refine ⟨rfl, by cases (pq ps k).1 <;> rfl, by cases (pq ps k).1 <;> rfl, by cases (pq ps k).1 <;> rfl, by cases (pq ps k).1 <;> rfl, a_shift_T t1 b3, fun i j hi hj => ?_, fun i hi hx => ?_⟩
      · exact shift_b (n := B.n) (turn_b S.B hi hj) b1 b2 b4 b5
      · have tb := turn_b (x := x) (b := (pq ps k).1) S.B (oc_bl hi) hi
        have h2 := oc_b_h i
        have z1 : a_sa x (otV A ps (sk1 k)).1 (otV A ps (sk1 k)).2 (oc_b i) = 0 := by
          unfold a_sa
          rw [if_neg (by omega), if_neg (by omega)]
        show _ + (if oc_b i = i then 0 else a_sa x (otV A ps (sk1 k)).1 (otV A ps (sk1 k)).2 (oc_b i) + a_sa x (otV A ps (sk1 k)).1 (otV A ps (sk1 k)).2 (oc_b i)) ≤ _
        have z2 : (if oc_b i = i then (0 : Int) else 0 + 0) = 0 := by split <;> rfl
        rw [z1, z2]
        omega
/-- its limits are of slots that are there, and not far -/
theorem SO.lim (S : SO A B ps x new lo hi) : ∀ c ∈ setL A ps (fun i => !new && ownB ps x i) x ps.length ++ [(2 * x, 2 * x, hi), (2 * x + 1, 2 * x + 1, -lo)], c.1 < 2 * (a_base A B ps x new).n ∧ c.2.1 < 2 * (a_base A B ps x new).n ∧ c.1 ≠ oc_b c.2.1 ∧ -34359738368 ≤ lmV c ∧ (-51539607552000 ≤ c.2.2 ∧ c.2.2 ≤ 51539607552000) := by
  obtain ⟨bn, -⟩ := S.base
  have xn : x < (a_base A B ps x new).n ∧ B.n ≤ (a_base A B ps x new).n := by
    rw [bn]
    cases new with
    | true => have := S.x1 rfl; rw [if_pos rfl]; omega
    | false => have := S.x0 rfl; rw [if_neg (by decide)]; omega
  have n := S.n
  obtain ⟨l1, l2⟩ := S.i1
  obtain ⟨h1, h2⟩ := S.i2
  intro c hc
  rcases List.mem_append.mp hc with hc | hc
  · obtain ⟨i, hi', fi, oi, e⟩ := (setL_m _).mp hc
    obtain ⟨b1, b2, b3, b4, b5⟩ := S.ot hi' fi
    have u := S.U i hi' fi
    have uh := pqU_h (ps := ps) (i := i)
    have ub := oc_bl u
    have ubh := oc_b_h (pqU ps i)
    have w := of_decide_eq_true fi
    have sx : pqU ps i / 2 ≠ x := fun z => by
      cases new with
      | true => have := S.x1 rfl; omega
      | false =>
        have : ownB ps x i = false := oi
        unfold ownB at this
        rw [fi, decide_eq_true (by omega)] at this
        cases this
    rcases e with e | e
    · subst e
      have ne : ¬ 2 * x = oc_b (pqU ps i) := fun z => by omega
      dsimp only
      refine ⟨by omega, by omega, ?_, ?_, by omega, by omega⟩
      · show 2 * x ≠ oc_b (oc_b (pqU ps i))
        rw [oc_bb]; omega
      · unfold lmV
        rw [if_neg ne]
        show _ ≤ (otV A ps (sk1 i)).2
        omega
    · subst e
      have ne : ¬ 2 * x + 1 = pqU ps i := fun z => by omega
      dsimp only
      refine ⟨by omega, by omega, ?_, ?_, by omega, by omega⟩
      · show 2 * x + 1 ≠ oc_b (pqU ps i)
        omega
      · unfold lmV
        rw [if_neg ne]
        show _ ≤ -(otV A ps (sk1 i)).1
        omega
  · have o0 : oc_b (2 * x) = 2 * x + 1 := by unfold oc_b; rw [if_pos (by omega)]
    have o1 : oc_b (2 * x + 1) = 2 * x := by unfold oc_b; rw [if_neg (by omega)]; omega
    rcases List.mem_cons.mp hc with e | hc
    · subst e
      dsimp only
      refine ⟨by omega, by omega, by rw [o0]; omega, ?_, by omega, by omega⟩
      unfold lmV
      rw [if_pos rfl]
      show _ ≤ 2 * hi
      omega
    · rcases List.mem_singleton.mp hc with rfl
      dsimp only
      refine ⟨by omega, by omega, by rw [o1]; omega, ?_, by omega, by omega⟩
      unfold lmV
      rw [if_pos rfl]
      show _ ≤ 2 * -lo
      omega
end SOs
