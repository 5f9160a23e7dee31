set_option maxRecDepth 100000
/-! what the reference's all finds, said of the parts that are not skipped -/
def rK (x y : Int32) (i : Nat) : Bool := decide (Int32.ofNat i = x ∨ Int32.ofNat i = y)
/-- a part that is looked at and is no number -/
def rC (num : Nat → Bool) (x y : Int32) (i : Nat) : Bool := !rK x y i && !num i
theorem ra_sums {lo hi : Nat → Int64} {num fre : Nat → Bool} {x y : Int32} : ∀ n, (raS lo hi num fre x y n).1 = s64 (fun i => if rK x y i = true then 0 else lo i) n ∧ (raS lo hi num fre x y n).2.1 = s64 (fun i => if rK x y i = true then 0 else hi i) n ∧ (raS lo hi num fre x y n).2.2.1 = s64 (fun i => if rK x y i = true then 0 else if num i = true then lo i else 0) n := by
  intro n
  induction n with
  | zero => exact ⟨rfl, rfl, rfl⟩
  | succ n ih =>
    obtain ⟨a, b, c⟩ := ih
    have e : raS lo hi num fre x y (n + 1) = raN lo hi num fre x y n (raS lo hi num fre x y n) := rfl
    have s1 : ∀ f : Nat → Int64, s64 f (n + 1) = s64 f n + f n := fun f => rfl
    rw [e, s1, s1, s1, ← a, ← b, ← c]
    generalize raS lo hi num fre x y n = s
    unfold raN
    by_cases k : Int32.ofNat n = x ∨ Int32.ofNat n = y
    · have kk : rK x y n = true := decide_eq_true k
      rw [if_pos k, kk, if_pos rfl, if_pos rfl, if_pos rfl]
      exact ⟨(Int64.add_zero _).symm, (Int64.add_zero _).symm, (Int64.add_zero _).symm⟩
    · have kk : rK x y n = false := decide_eq_false k
      have ff : ∀ a b : Int64, (if (false : Bool) = true then a else b) = b := fun _ _ => rfl
      rw [if_neg k, kk, ff, ff, ff]
      by_cases q : num n = true
      · have hn : (if num n = true then lo n else 0) = lo n := if_pos q
        rw [hn, if_pos q]; exact ⟨rfl, rfl, rfl⟩
      · have hn : (if num n = true then lo n else 0) = 0 := if_neg q
        rw [hn, if_neg q]
        split
        · exact ⟨rfl, rfl, (Int64.add_zero _).symm⟩
        · exact ⟨rfl, rfl, (Int64.add_zero _).symm⟩
theorem ra_two {lo hi : Nat → Int64} {num fre : Nat → Bool} {x y : Int32} : ∀ n, ((raS lo hi num fre x y n).2.2.2.2.2 = true ↔ (∀ i, i < n → rC num x y i = true → fre i = true) ∧ n64 (rC num x y) n ≤ 2) ∧ ((∀ i, i < n → rC num x y i = true → fre i = true) → (n64 (rC num x y) n = 0 → (raS lo hi num fre x y n).2.2.2.1 = none ∧ (raS lo hi num fre x y n).2.2.2.2.1 = none) ∧ (n64 (rC num x y) n = 1 → ∃ i, i < n ∧ rC num x y i = true ∧ (raS lo hi num fre x y n).2.2.2.1 = some i ∧ (raS lo hi num fre x y n).2.2.2.2.1 = none) ∧ (2 ≤ n64 (rC num x y) n → ∃ i j, i < j ∧ j < n ∧ rC num x y i = true ∧ rC num x y j = true ∧ (raS lo hi num fre x y n).2.2.2.1 = some i ∧ (raS lo hi num fre x y n).2.2.2.2.1 = some j)) := by
  intro n
  induction n with
  | zero =>
    refine ⟨⟨fun _ => ⟨fun i hi => absurd hi (Nat.not_lt_zero _), Nat.zero_le _⟩, fun _ => rfl⟩, fun _ => ⟨fun _ => ⟨rfl, rfl⟩, fun h => absurd (show (0 : Nat) = 1 from h) (by decide), fun h => absurd (show (2 : Nat) ≤ 0 from h) (by decide)⟩⟩
  | succ n ih =>
    have e : raS lo hi num fre x y (n + 1) = raN lo hi num fre x y n (raS lo hi num fre x y n) := rfl
    rw [e, n64_1]
    have same : rC num x y n = false → ∀ s : raT, s.2.2.2 = (raS lo hi num fre x y n).2.2.2 → (s.2.2.2.2.2 = true ↔ (∀ i, i < n + 1 → rC num x y i = true → fre i = true) ∧ n64 (rC num x y) n + (if rC num x y n = true then 1 else 0) ≤ 2) ∧ ((∀ i, i < n + 1 → rC num x y i = true → fre i = true) → (n64 (rC num x y) n + (if rC num x y n = true then 1 else 0) = 0 → s.2.2.2.1 = none ∧ s.2.2.2.2.1 = none) ∧ (n64 (rC num x y) n + (if rC num x y n = true then 1 else 0) = 1 → ∃ i, i < n + 1 ∧ rC num x y i = true ∧ s.2.2.2.1 = some i ∧ s.2.2.2.2.1 = none) ∧ (2 ≤ n64 (rC num x y) n + (if rC num x y n = true then 1 else 0) → ∃ i j, i < j ∧ j < n + 1 ∧ rC num x y i = true ∧ rC num x y j = true ∧ s.2.2.2.1 = some i ∧ s.2.2.2.2.1 = some j)) := by
      intro hf s es
      rw [es]
      obtain ⟨p, q⟩ := ih
      have all : (∀ i, i < n + 1 → rC num x y i = true → fre i = true) ↔ (∀ i, i < n → rC num x y i = true → fre i = true) := by
        constructor
        · intro w i hi hc; exact w i (by omega) hc
        · intro w i hi hc
          by_cases c : i = n
          · rw [c, hf] at hc; cases hc
          · exact w i (by omega) hc
      rw [all]
      have z : n64 (rC num x y) n + (if rC num x y n = true then 1 else 0) = n64 (rC num x y) n := by rw [hf, if_neg (by decide), Nat.add_zero]
      rw [z]
      refine ⟨p, fun w => ?_⟩
      obtain ⟨q0, q1, q2⟩ := q w
      refine ⟨q0, fun h => ?_, fun h => ?_⟩
      · obtain ⟨i, a, b⟩ := q1 h; exact ⟨i, by omega, b⟩
      · obtain ⟨i, j, a, b, c⟩ := q2 h; exact ⟨i, j, a, by omega, c⟩
    by_cases k : Int32.ofNat n = x ∨ Int32.ofNat n = y
    · have kk : rK x y n = true := decide_eq_true k
      refine same (by unfold rC; rw [kk]; rfl) _ ?_
      unfold raN; rw [if_pos k]
    · have kk : rK x y n = false := decide_eq_false k
      by_cases q : num n = true
      · refine same (by unfold rC; rw [q, Bool.not_true, Bool.and_false]) _ ?_
        unfold raN; rw [if_neg k, if_pos q]
      · have hc : rC num x y n = true := by unfold rC; rw [kk, Bool.eq_false_iff.mpr q]; rfl
        clear same
        obtain ⟨p, q'⟩ := ih
        unfold raN
        rw [if_neg k, if_neg q, hc, if_pos rfl]
        generalize raS lo hi num fre x y n = s at p q' ⊢
        by_cases f : fre n = true
        · have all : (∀ i, i < n + 1 → rC num x y i = true → fre i = true) ↔ (∀ i, i < n → rC num x y i = true → fre i = true) := by
            constructor
            · intro w i hi hc; exact w i (by omega) hc
            · intro w i hi hc
              by_cases c : i = n
              · rw [c]; exact f
              · exact w i (by omega) hc
          rw [all]
          by_cases o : s.2.2.2.2.1 = none
          · rw [if_pos ⟨f, o⟩]
            refine ⟨?_, fun w => ?_⟩
            · show s.2.2.2.2.2 = true ↔ _
              rw [p]
              constructor
              · rintro ⟨w, l⟩
                refine ⟨w, ?_⟩
                obtain ⟨-, -, q2⟩ := q' w
                by_cases c : 2 ≤ n64 (rC num x y) n
                · obtain ⟨i, j, -, -, -, -, -, ej⟩ := q2 c
                  rw [o] at ej; cases ej
                · omega
              · rintro ⟨w, l⟩; exact ⟨w, by omega⟩
            · obtain ⟨q0, q1, q2⟩ := q' w
              refine ⟨fun h => absurd h (by omega), fun h => ?_, fun h => ?_⟩
              · obtain ⟨a, b⟩ := q0 (by omega)
                refine ⟨n, by omega, hc, ?_, ?_⟩
                · show (if s.2.2.2.1 = none then some n else s.2.2.2.1) = some n
                  rw [if_pos a]
                · show (if s.2.2.2.1 = none then none else some n) = none
                  rw [if_pos a]
              · by_cases c : 2 ≤ n64 (rC num x y) n
                · obtain ⟨i, j, -, -, -, -, -, ej⟩ := q2 c
                  rw [o] at ej; cases ej
                · obtain ⟨i, hi, ci, a, b⟩ := q1 (by omega)
                  refine ⟨i, n, hi, by omega, ci, hc, ?_, ?_⟩
                  · show (if s.2.2.2.1 = none then some n else s.2.2.2.1) = some i
                    rw [a, if_neg (by intro w; cases w)]
                  · show (if s.2.2.2.1 = none then none else some n) = some n
                    rw [a, if_neg (by intro w; cases w)]
          · rw [if_neg (fun w => o w.2)]
            refine ⟨⟨fun h => (by cases h), ?_⟩, fun w => ?_⟩
            · rintro ⟨w, l⟩
              obtain ⟨q0, q1, -⟩ := q' w
              by_cases c : n64 (rC num x y) n = 0
              · exact absurd (q0 c).2 o
              · obtain ⟨i, -, -, -, b⟩ := q1 (by omega)
                exact absurd b o
            · obtain ⟨q0, q1, q2⟩ := q' w
              have c2 : 2 ≤ n64 (rC num x y) n := by
                by_cases c : n64 (rC num x y) n = 0
                · exact absurd (q0 c).2 o
                · by_cases c1 : n64 (rC num x y) n = 1
                  · obtain ⟨i, -, -, -, b⟩ := q1 c1
                    exact absurd b o
                  · omega
              refine ⟨fun h => absurd h (by omega), fun h => absurd h (by omega), fun _ => ?_⟩
              obtain ⟨i, j, a, b, c⟩ := q2 c2
              exact ⟨i, j, a, by omega, c⟩
        · rw [if_neg (fun w => f w.1)]
          exact ⟨⟨fun h => (by cases h), fun w => absurd (w.1 n (by omega) hc) f⟩, fun w => absurd (w n (by omega) hc) f⟩
