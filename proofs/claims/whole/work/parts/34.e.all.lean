set_option maxRecDepth 100000
/-! what the class's findOthers finds, said of the free slots that are not skipped -/
def fK (sg : Nat → Int32) (x y : Int32) (z : Nat) : Bool := sF (sg z) && rK x y z
def fC (sg : Nat → Int32) (x y : Int32) (z : Nat) : Bool := sF (sg z) && !rK x y z
theorem fo_sums {gr : Nat → Nat → Int64} {sg : Nat → Int32} {x y mx : Int32} {fl fh : Int64} : ∀ n, (foS gr sg x y mx fl fh n).1 = mx - Int32.ofNat (n64 (fK sg x y) n) ∧ (foS gr sg x y mx fl fh n).2.2.2.1 = fl + s64 (fun z => if fK sg x y z = true then gr (oc_b (foU sg z)) (oc_b (foU sg z)) else 0) n ∧ (foS gr sg x y mx fl fh n).2.2.2.2 = fh - s64 (fun z => if fK sg x y z = true then gr (foU sg z) (foU sg z) else 0) n := by
  intro n
  induction n with
  | zero => exact ⟨(Int32.sub_zero mx).symm, (Int64.add_zero fl).symm, (Int64.sub_zero fh).symm⟩
  | succ n ih =>
    obtain ⟨a, b, c⟩ := ih
    have e : foS gr sg x y mx fl fh (n + 1) = foN gr sg x y n (foS gr sg x y mx fl fh n) := rfl
    have s1 : ∀ f : Nat → Int64, s64 f (n + 1) = s64 f n + f n := fun f => rfl
    rw [e, s1, s1, n64_1]
    unfold foN
    by_cases f : sF (sg n) = true
    · rw [if_pos f]
      by_cases k : Int32.ofNat n = x ∨ Int32.ofNat n = y
      · have kk : fK sg x y n = true := by unfold fK; rw [f]; exact decide_eq_true k
        rw [if_pos k, kk, if_pos rfl, if_pos rfl, if_pos rfl, a, b, c]
        refine ⟨?_, ?_, ?_⟩
        · show mx - Int32.ofNat (n64 (fK sg x y) n) + -1 = _
          rw [Int32.ofNat_add, Int32.sub_eq_add_neg, Int32.sub_eq_add_neg, Int32.neg_add, Int32.sub_eq_add_neg, Int32.add_assoc]
          rfl
        · rw [Int64.add_assoc]
        · have g3 : ∀ p q r : Int64, p - q - r = p - (q + r) := fun p q r => by rw [Int64.sub_eq_add_neg, Int64.sub_eq_add_neg, Int64.sub_eq_add_neg, Int64.neg_add, Int64.sub_eq_add_neg, Int64.add_assoc]
          exact g3 _ _ _
      · have kk : fK sg x y n = false := by unfold fK; rw [f]; exact decide_eq_false k
        have f1 : ∀ p q : Nat, (if (false : Bool) = true then p else q) = q := fun _ _ => rfl
        have f2 : ∀ p q : Int64, (if (false : Bool) = true then p else q) = q := fun _ _ => rfl
        rw [if_neg k, kk, f1, f2, f2, Nat.add_zero, Int64.add_zero, Int64.add_zero]
        exact ⟨a, b, c⟩
    · have kk : fK sg x y n = false := by unfold fK; rw [Bool.eq_false_iff.mpr f]; rfl
      have f1 : ∀ p q : Nat, (if (false : Bool) = true then p else q) = q := fun _ _ => rfl
      have f2 : ∀ p q : Int64, (if (false : Bool) = true then p else q) = q := fun _ _ => rfl
      rw [if_neg f, kk, f1, f2, f2, Nat.add_zero, Int64.add_zero, Int64.add_zero]
      exact ⟨a, b, c⟩
theorem fo_two {gr : Nat → Nat → Int64} {sg : Nat → Int32} {x y mx : Int32} {fl fh : Int64} : ∀ n, (n64 (fC sg x y) n = 0 → (foS gr sg x y mx fl fh n).2.1 = none ∧ (foS gr sg x y mx fl fh n).2.2.1 = none) ∧ (n64 (fC sg x y) n = 1 → ∃ j, j < n ∧ fC sg x y j = true ∧ (foS gr sg x y mx fl fh n).2.1 = none ∧ (foS gr sg x y mx fl fh n).2.2.1 = some (foU sg j)) ∧ (2 ≤ n64 (fC sg x y) n → ∃ i j, i < j ∧ j < n ∧ fC sg x y i = true ∧ fC sg x y j = true ∧ (foS gr sg x y mx fl fh n).2.1 = some (foU sg i) ∧ (foS gr sg x y mx fl fh n).2.2.1 = some (foU sg j)) := by
  intro n
  induction n with
  | zero => exact ⟨fun _ => ⟨rfl, rfl⟩, fun h => absurd (show (0 : Nat) = 1 from h) (by decide), fun h => absurd (show (2 : Nat) ≤ 0 from h) (by decide)⟩
  | succ n ih =>
    obtain ⟨q0, q1, q2⟩ := ih
    have e : foS gr sg x y mx fl fh (n + 1) = foN gr sg x y n (foS gr sg x y mx fl fh n) := rfl
    have f1 : ∀ p q : Nat, (if (false : Bool) = true then p else q) = q := fun _ _ => rfl
    rw [e, n64_1]
    unfold foN
    by_cases f : sF (sg n) = true
    · rw [if_pos f]
      by_cases k : Int32.ofNat n = x ∨ Int32.ofNat n = y
      · have kk : fC sg x y n = false := by
          unfold fC
          rw [f, show rK x y n = true from decide_eq_true k]; rfl
        rw [if_pos k, kk, f1, Nat.add_zero]
        refine ⟨q0, fun h => ?_, fun h => ?_⟩
        · obtain ⟨j, a, b⟩ := q1 h; exact ⟨j, by omega, b⟩
        · obtain ⟨i, j, a, b, c⟩ := q2 h; exact ⟨i, j, a, by omega, c⟩
      · have kk : fC sg x y n = true := by
          unfold fC
          rw [f, show rK x y n = false from decide_eq_false k]; rfl
        rw [if_neg k, kk, if_pos rfl]
        refine ⟨fun h => absurd h (by omega), fun h => ?_, fun h => ?_⟩
        · exact ⟨n, by omega, kk, (q0 (by omega)).2, rfl⟩
        · by_cases c1 : n64 (fC sg x y) n = 1
          · obtain ⟨j, a, b, -, d⟩ := q1 c1
            exact ⟨j, n, a, by omega, b, kk, d, rfl⟩
          · obtain ⟨i, j, a, b, c, d, -, g⟩ := q2 (by omega)
            exact ⟨j, n, b, by omega, d, kk, g, rfl⟩
    · have kk : fC sg x y n = false := by unfold fC; rw [Bool.eq_false_iff.mpr f]; rfl
      rw [if_neg f, kk, f1, Nat.add_zero]
      refine ⟨q0, fun h => ?_, fun h => ?_⟩
      · obtain ⟨j, a, b⟩ := q1 h; exact ⟨j, by omega, b⟩
      · obtain ⟨i, j, a, b, c⟩ := q2 h; exact ⟨i, j, a, by omega, c⟩
