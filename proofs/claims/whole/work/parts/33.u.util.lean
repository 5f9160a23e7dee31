def n64 (b : Nat → Bool) : Nat → Nat
  | 0 => 0
  | i + 1 => n64 b i + (if b i then 1 else 0)
theorem n64_1 {b : Nat → Bool} {i : Nat} : n64 b (i + 1) = n64 b i + (if b i then 1 else 0) := rfl
theorem n64_cong {b c : Nat → Bool} : ∀ n, (∀ i, i < n → b i = c i) → n64 b n = n64 c n := by
  intro n
  induction n with
  | zero => intro _; rfl
  | succ n ih => intro w; rw [n64_1, n64_1, ih (fun i hi => w i (by omega)), w n (by omega)]
