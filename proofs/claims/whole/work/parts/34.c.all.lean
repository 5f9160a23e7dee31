set_option maxRecDepth 100000
/-! sums of longs, and which slots are free -/
def sI (f : Nat → Int) : Nat → Int
  | 0 => 0
  | i + 1 => sI f i + f i
theorem s64_int {f : Nat → Int64} : ∀ n, n ≤ 1000000 → (∀ i, i < n → -4294967296 ≤ (f i).toInt ∧ (f i).toInt ≤ 4294967296) → (s64 f n).toInt = sI (fun i => (f i).toInt) n ∧ -(4294967296 * n) ≤ (s64 f n).toInt ∧ (s64 f n).toInt ≤ 4294967296 * n := by
  intro n
  induction n with
  | zero =>
    intro _ _
    have e : (s64 f 0).toInt = 0 := rfl
    rw [e]
    exact ⟨rfl, by omega, by omega⟩
  | succ n ih =>
    intro hn hf
    obtain ⟨h1, h2, h3⟩ := ih (by omega) (fun i hi => hf i (by omega))
    have := hf n (by omega)
    have e : (s64 f n + f n).toInt = (s64 f n).toInt + (f n).toInt := ladd_int (by omega) (by omega)
    refine ⟨?_, ?_, ?_⟩
    · show (s64 f n + f n).toInt = sI (fun i => (f i).toInt) n + (f n).toInt
      rw [e, h1]
    · show _ ≤ (s64 f n + f n).toInt
      rw [e]; push_cast; omega
    · show (s64 f n + f n).toInt ≤ _
      rw [e]; push_cast; omega
def uC (nb : Nat) (u : Nat → Int32) (x i : Nat) : Bool := !decide (u i < 0) && decide (nb + (u i).toNatClampNeg = x)
/-- the sign of a slot: 0 where it is no part, 1 or -1 where it is one, 2 where it is several -/
theorem sgN_at {nb : Nat} {t u z : Nat → Int32} {x : Nat} (hz : z x = 0) : ∀ n, (n64 (uC nb u x) n = 0 → sgN nb t u z n x = 0) ∧ (n64 (uC nb u x) n = 1 → ∃ i, i < n ∧ uC nb u x i = true ∧ sgN nb t u z n x = if t i = 1 then -1 else 1) ∧ (2 ≤ n64 (uC nb u x) n → sgN nb t u z n x = 2) := by
  intro n
  induction n with
  | zero => exact ⟨fun _ => hz, fun h => absurd (show (0 : Nat) = 1 from h) (by decide), fun h => absurd (show (2 : Nat) ≤ 0 from h) (by decide)⟩
  | succ n ih =>
    obtain ⟨i0, i1, i2⟩ := ih
    have sg1 : sgN nb t u z (n + 1) = if u n < 0 then sgN nb t u z n else up (sgN nb t u z n) (nb + (u n).toNatClampNeg) (if sgN nb t u z n (nb + (u n).toNatClampNeg) = 0 then (if t n = 1 then -1 else 1) else 2) := rfl
    rw [sg1, n64_1]
    have same : uC nb u x n = false → (∀ v, v = sgN nb t u z n x → (n64 (uC nb u x) n + (if uC nb u x n = true then 1 else 0) = 0 → v = 0) ∧ (n64 (uC nb u x) n + (if uC nb u x n = true then 1 else 0) = 1 → ∃ i, i < n + 1 ∧ uC nb u x i = true ∧ v = if t i = 1 then -1 else 1) ∧ (2 ≤ n64 (uC nb u x) n + (if uC nb u x n = true then 1 else 0) → v = 2)) := by
      intro hf v hv
      rw [hf, if_neg (by decide), Nat.add_zero, hv]
      exact ⟨i0, fun h => by obtain ⟨i, a, b, c⟩ := i1 h; exact ⟨i, by omega, b, c⟩, i2⟩
    by_cases c : u n < 0
    · have hf : uC nb u x n = false := by unfold uC; rw [decide_eq_true c]; rfl
      rw [if_pos c]
      exact same hf _ rfl
    · rw [if_neg c]
      by_cases c2 : nb + (u n).toNatClampNeg = x
      · have hf : uC nb u x n = true := by unfold uC; rw [decide_eq_false c, decide_eq_true c2]; rfl
        rw [hf, if_pos rfl, c2, up_s]
        refine ⟨fun h => absurd h (by omega), fun h => ?_, fun h => ?_⟩
        · rw [if_pos (i0 (by omega))]
          exact ⟨n, by omega, hf, rfl⟩
        · have ne : ¬ sgN nb t u z n x = 0 := by
            by_cases q : n64 (uC nb u x) n = 1
            · obtain ⟨i, -, -, e⟩ := i1 q
              rw [e]
              split <;> decide
            · rw [i2 (by omega)]; decide
          rw [if_neg ne]
      · have hf : uC nb u x n = false := by unfold uC; rw [decide_eq_false c2, Bool.and_false]
        exact same hf _ (up_n (fun w => c2 w.symm))
