set_option maxRecDepth 100000
/-! to meet f <= c -/
def mU (mi : Bool) (u : Nat) : Nat := if mi = true then oc_b u else u
noncomputable def mLow (A : ab) (ps : List pa) (mi : Bool) (sk : Nat → Bool) : Int := if mi = true then -(otV A ps sk).2 else (otV A ps sk).1
noncomputable def mtC (A : ab) (ps : List pa) (mi : Bool) (c : Int) (i j : Nat) : List lm := if (pqF ps i && pqF ps j) = true then [(mU mi (pqU ps i), mU mi (pqU ps j), c - mLow A ps mi (sk2 i j))] else []
noncomputable def mtI (A : ab) (ps : List pa) (mi : Bool) (c : Int) (i : Nat) : Nat → List lm
  | 0 => []
  | n + 1 => mtI A ps mi c i n ++ mtC A ps mi c i (i + n)
noncomputable def mtL (A : ab) (ps : List pa) (mi : Bool) (c : Int) (m : Nat) : Nat → List lm
  | 0 => []
  | n + 1 => mtL A ps mi c m n ++ mtI A ps mi c n (m - n)
noncomputable def a_meet (A : ab) (ps : List pa) (mi : Bool) (c : Int) : Option ab → Option ab
  | none => none
  | some M => if c < mLow A ps mi sk0 then none else some (a_lims (mtL A ps mi c ps.length ps.length) M)
noncomputable def a_differ (A : ab) (ps : List pa) (C : Option ab) : Option ab :=
  if (otV A ps sk0).1 = 0 ∧ (otV A ps sk0).2 = 0 then none else if (otV A ps sk0).1 = 0 then a_meet A ps true (-1) C else if (otV A ps sk0).2 = 0 then a_meet A ps false (-1) C else C
/-- its limits are of slots that are there, and not far -/
abbrev MO (A : ab) (ps : List pa) : Prop := (ab_T A) ∧ (PB A ps) ∧ (∀ i, i < ps.length → pqF ps i = true → pqU ps i < 2 * A.n)
theorem MO.T {A : ab} {ps : List pa} (q : MO A ps) : ab_T A := q.1
theorem MO.pb {A : ab} {ps : List pa} (q : MO A ps) : PB A ps := q.2.1
theorem MO.U {A : ab} {ps : List pa} (q : MO A ps) : ∀ i, i < ps.length → pqF ps i = true → pqU ps i < 2 * A.n := q.2.2
section MTs
variable {A : ab} {ps : List pa} {mi : Bool} {c : Int}
theorem mtC_m {i j : Nat} {e : lm} : e ∈ mtC A ps mi c i j ↔ pqF ps i = true ∧ pqF ps j = true ∧ e = (mU mi (pqU ps i), mU mi (pqU ps j), c - mLow A ps mi (sk2 i j)) := by
  unfold mtC
  by_cases q : (pqF ps i && pqF ps j) = true
  · rw [if_pos q]
    rw [Bool.and_eq_true] at q
    constructor
    · intro h; exact ⟨q.1, q.2, List.mem_singleton.mp h⟩
    · rintro ⟨-, -, h⟩; exact List.mem_singleton.mpr h
  · rw [if_neg q]
    constructor
    · intro h; exact absurd h List.not_mem_nil
    · rintro ⟨h1, h2, -⟩
      rw [h1, h2] at q
      exact absurd rfl q
theorem mtI_m {i : Nat} {e : lm} : ∀ n, e ∈ mtI A ps mi c i n ↔ ∃ j, i ≤ j ∧ j < i + n ∧ e ∈ mtC A ps mi c i j := by
  intro n
  induction n with
  | zero => exact ⟨fun h => absurd h List.not_mem_nil, fun h => by obtain ⟨j, h1, h2, -⟩ := h; omega⟩
  | succ n ih =>
    show e ∈ mtI A ps mi c i n ++ mtC A ps mi c i (i + n) ↔ _
    rw [List.mem_append, ih]
    constructor
    · rintro (⟨j, h1, h2, h⟩ | h)
      · exact ⟨j, h1, by omega, h⟩
      · exact ⟨i + n, by omega, by omega, h⟩
    · rintro ⟨j, h1, h2, h⟩
      by_cases q : j = i + n
      · rw [q] at h; exact Or.inr h
      · exact Or.inl ⟨j, h1, by omega, h⟩
theorem mtL_m {m : Nat} {e : lm} : ∀ n, n ≤ m → (e ∈ mtL A ps mi c m n ↔ ∃ i j, i < n ∧ i ≤ j ∧ j < m ∧ e ∈ mtC A ps mi c i j) := by
  intro n
  induction n with
  | zero => intro _; exact ⟨fun h => absurd h List.not_mem_nil, fun h => by obtain ⟨i, j, h1, -⟩ := h; omega⟩
  | succ n ih =>
    intro hn
    show e ∈ mtL A ps mi c m n ++ mtI A ps mi c n (m - n) ↔ _
    rw [List.mem_append, ih (by omega), mtI_m]
    constructor
    · rintro (⟨i, j, h1, h2, h3, h⟩ | ⟨j, h1, h2, h⟩)
      · exact ⟨i, j, by omega, h2, h3, h⟩
      · exact ⟨n, j, by omega, h1, by omega, h⟩
    · rintro ⟨i, j, h1, h2, h3, h⟩
      by_cases q : i = n
      · rw [q] at h h2; exact Or.inr ⟨j, h2, by omega, h⟩
      · exact Or.inl ⟨i, j, by omega, h2, h3, h⟩
theorem mtI_F {i : Nat} (h : pqF ps i = false) : ∀ n, mtI A ps mi c i n = [] := by
  intro n
  induction n with
  | zero => rfl
  | succ n ih =>
    show mtI A ps mi c i n ++ mtC A ps mi c i (i + n) = []
    rw [ih]
    unfold mtC
    rw [h, Bool.false_and, if_neg (by decide)]
    rfl
theorem mU_h {u : Nat} : mU mi u / 2 = u / 2 := by
  unfold mU
  split
  · exact oc_b_h u
  · rfl
theorem mU_l {u n : Nat} (h : u < 2 * n) : mU mi u < 2 * n := by
  have := mU_h (mi := mi) (u := u)
  omega
theorem MO.cc (S : MO A ps) {n : Nat} (hn : A.n ≤ n) {i j : Nat} (hi : i < ps.length) (hj : j < ps.length) {e : lm} (h : e ∈ mtC A ps mi c i j) : e.1 < 2 * n ∧ e.2.1 < 2 * n ∧ e.1 ≠ oc_b e.2.1 := by
  obtain ⟨fi, fj, e1⟩ := mtC_m.mp h
  have ui := S.U i hi fi
  have uj := S.U j hj fj
  have vi := mU_l (mi := mi) ui
  have vj := mU_l (mi := mi) uj
  have hi' := mU_h (mi := mi) (u := pqU ps i)
  have hj' := mU_h (mi := mi) (u := pqU ps j)
  have ob := oc_b_h (mU mi (pqU ps j))
  subst e1
  refine ⟨by dsimp only; omega, by dsimp only; omega, ?_⟩
  show mU mi (pqU ps i) ≠ oc_b (mU mi (pqU ps j))
  by_cases q : i = j
  · subst q
    exact fun z => oc_bn (mU mi (pqU ps i)) z.symm
  · intro z
    obtain ⟨x, x1, x2, x3⟩ := pqF_s fi
    obtain ⟨y, y1, y2, y3⟩ := pqF_s fj
    have h1 := pqU_h (ps := ps) (i := i)
    have h2 := pqU_h (ps := ps) (i := j)
    have e2 : x = y := by omega
    rw [← e2] at y1
    have := n64_1u x3 hi hj (decide_eq_true x1) (decide_eq_true y1)
    exact q this.symm
theorem MO.v (S : MO A ps) (hc : -2 ≤ c ∧ c ≤ 2) (h0 : mLow A ps mi sk0 ≤ c) {i j : Nat} (hi : i < ps.length) (hj : j < ps.length) {e : lm} (h : e ∈ mtC A ps mi c i j) : -34359738368 ≤ lmV e := by
  obtain ⟨fi, fj, e1⟩ := mtC_m.mp h
  have o0 := otV_OT (A := A) (ps := ps) (sk := sk0)
  have o2 := otV_OT (A := A) (ps := ps) (sk := sk2 i j)
  have b := meet_b (c := c) S.pb hi hj fi fj o0 o2
  subst e1
  have key : -12884901888 ≤ c - mLow A ps mi (sk2 i j) := by
    unfold mLow at h0 ⊢
    cases mi with
    | true =>
      rw [if_pos rfl] at h0 ⊢
      have := b.2 h0
      omega
    | false =>
      rw [if_neg (by decide)] at h0 ⊢
      exact b.1 h0
  unfold lmV
  split
  · show _ ≤ 2 * (c - mLow A ps mi (sk2 i j))
    omega
  · show _ ≤ c - mLow A ps mi (sk2 i j)
    omega
end MTs
