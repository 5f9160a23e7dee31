set_option maxRecDepth 100000
/-! THE SPARE BOUND -/
def Z32 : Nat → Nat
  | 0 => 0
  | d + 1 => Z32 d + (32 - d)
theorem Z_32 : ∀ d, Z32 d + (32 - d) * (33 - d) / 2 = 528 ∨ (32 ≤ d ∧ Z32 d = 528) := by
  intro d
  induction d with
  | zero => exact Or.inl rfl
  | succ d ih =>
    show Z32 d + (32 - d) + _ = 528 ∨ _
    by_cases c : 32 ≤ d
    · refine Or.inr ⟨by omega, ?_⟩
      show Z32 d + (32 - d) = 528
      rcases ih with z | z
      · have e : 32 - d = 0 := by omega
        rw [e] at z ⊢
        rw [Nat.zero_mul] at z
        omega
      · omega
    · rcases ih with z | z
      · refine Or.inl ?_
        obtain ⟨m, hm⟩ : ∃ m, 32 - d = m + 1 := ⟨31 - d, by omega⟩
        have e1 : 33 - d = m + 2 := by omega
        have e2 : 32 - (d + 1) = m := by omega
        have e3 : 33 - (d + 1) = m + 1 := by omega
        rw [hm, e1] at z
        rw [e2, e3, hm]
        have e4 : (m + 1) * (m + 2) = m * (m + 1) + 2 * (m + 1) := by rw [Nat.mul_comm (m + 1), ← Nat.add_mul]
        rw [e4, Nat.add_mul_div_left _ _ (by omega)] at z
        omega
      · omega
theorem Z_le (d : Nat) : Z32 d ≤ 528 := by
  rcases Z_32 d with z | z
  · omega
  · omega
theorem Z_s (d : Nat) : Z32 (1 + d) = Z32 d + (32 - d) := by rw [Nat.add_comm]; rfl
theorem Z_hi {d : Nat} (h : 32 ≤ d) : Z32 d = 528 := by
  rcases Z_32 d with z | z
  · have e : 32 - d = 0 := by omega
    rw [e, Nat.zero_mul] at z
    omega
  · exact z.2
/-- spares, work, levels in their last round (a), in tries (b) -/
def SQ3 (N k dm t w0 w1 : Nat) : Prop := ∃ a b v, t + 4 * k ≤ 5 * N + 350 + 2 * (a + b) ∧ v + w0 ≤ w1 ∧ a + b + k ≤ N ∧ 2 ^ a ≤ v + 1 ∧ (k = 0 → b = 0) ∧ 34 * b ≤ v + 528 * (k - 1) + Z32 dm
section SQs
variable {N N1 N2 k k1 k2 dm dm1 dm2 t t1 t2 w0 w1 w0' w1' : Nat}
theorem sq_0 (hk : k ≤ N) (ht : t ≤ 350) (hw : w0 ≤ w1) (h4 : t + 4 * k ≤ 5 * N + 350) : SQ3 N k dm t w0 w1 := ⟨0, 0, 0, by omega, by omega, by omega, by decide, fun _ => rfl, by omega⟩
theorem sq_m (h : SQ3 N1 k1 dm1 t w0 w1) (hk : k2 ≤ N2) (h0 : k2 = 0 → 32 ≤ dm2) (e1 : w0' ≤ w0) (e2 : w1 ≤ w1') : SQ3 (N1 + N2) (k1 + k2) (min dm1 dm2) t w0' w1' := by
  obtain ⟨a, b, v, q1, q2, q3, q4, q5, q6⟩ := h
  refine ⟨a, b, v, by omega, by omega, by omega, q4, fun z => q5 (by omega), ?_⟩
  have z1 := Z_le dm1
  by_cases c1 : k1 = 0
  · have := q5 c1; omega
  · by_cases c2 : k2 = 0
    · have := h0 c2
      by_cases c : dm1 ≤ dm2
      · rw [Nat.min_eq_left c]; omega
      · rw [Nat.min_eq_right (by omega), Z_hi this]; omega
    · omega
theorem sq_x (h1 : SQ3 N k dm t1 w0 w1) (h2 : SQ3 N k dm t2 w0 w1) : SQ3 N k dm (max t1 t2) w0 w1 := by
  rcases Nat.le_total t1 t2 with c | c
  · rw [Nat.max_eq_right c]; exact h2
  · rw [Nat.max_eq_left c]; exact h1
theorem sq_w (h : SQ3 N k dm t w0 w1) (e1 : w0' ≤ w0) (e2 : w1 ≤ w1') : SQ3 N k dm t w0' w1' := by
  obtain ⟨a, b, v, q1, q2, q3, q4, q5, q6⟩ := h
  exact ⟨a, b, v, q1, by omega, q3, q4, q5, q6⟩
/-- around it: a call -/
theorem sq_c (h : SQ3 N k dm t w0 w1) : SQ3 (1 + N) (1 + k) 0 (1 + t) w0 w1 := by
  obtain ⟨a, b, v, q1, q2, q3, q4, q5, q6⟩ := h
  have z := Z_le dm
  refine ⟨a, b, v, by omega, q2, by omega, q4, fun z => by omega, ?_⟩
  by_cases c : k = 0
  · have := q5 c; omega
  · omega
/-- an if -/
theorem sq_i (h : SQ3 N k dm t w0 w1) : SQ3 (1 + N) k dm (2 + t) w0 w1 := by
  obtain ⟨a, b, v, q1, q2, q3, q4, q5, q6⟩ := h
  exact ⟨a, b, v, by omega, q2, by omega, q4, q5, q6⟩
/-- a while, in its climb -/
theorem sq_r (h : SQ3 N k dm t w0 w1) (hk : k ≤ N) {sp : Nat} (hs : sp ≤ 350) (hw : w0 ≤ w1) : SQ3 (1 + N) k (1 + dm) (4 + (1 + max sp t)) w0 w1 := by
  rcases Nat.le_total sp t with c | c
  · rw [Nat.max_eq_right c]
    obtain ⟨a, b, v, q1, q2, q3, q4, q5, q6⟩ := h
    have z := Z_s dm
    exact ⟨a, b, v, by omega, q2, by omega, q4, q5, by omega⟩
  · rw [Nat.max_eq_left c]
    exact ⟨0, 0, 0, by omega, by omega, by omega, by decide, fun _ => rfl, by omega⟩
/-- in a try -/
theorem sq_t (h : SQ3 N k dm t w0 w1) (hk : k ≤ N) (hk1 : 1 ≤ k) {sp wO : Nat} (hs : sp ≤ 350) (hw : wO + 2 + dm ≤ w0) (hw1 : w0 ≤ w1) : SQ3 (1 + N) k (1 + dm) (6 + (1 + max sp t)) wO w1 := by
  rcases Nat.le_total sp t with c | c
  · rw [Nat.max_eq_right c]
    obtain ⟨a, b, v, q1, q2, q3, q4, q5, q6⟩ := h
    have z := Z_s dm
    exact ⟨a, b + 1, v + 2 + dm, by omega, by omega, by omega, by omega, fun z => by omega, by omega⟩
  · rw [Nat.max_eq_left c]
    have z := Z_s dm
    exact ⟨0, 1, 2 + dm, by omega, by omega, by omega, by rw [Nat.pow_zero]; omega, fun z => by omega, by omega⟩
/-- in its last round, done before at the same head: c the work of that body -/
theorem sq_f (h : SQ3 N k dm t w0 w1) (hk : k ≤ N) {sp wO c : Nat} (hs : sp ≤ 350) (hc : w1 ≤ w0 + c) (hw : wO + 1 + c + 1 ≤ w0) (hw1 : w0 ≤ w1) : SQ3 (1 + N) k (1 + dm) (6 + (1 + max sp t)) wO w1 := by
  rcases Nat.le_total sp t with d | d
  · rw [Nat.max_eq_right d]
    obtain ⟨a, b, v, q1, q2, q3, q4, q5, q6⟩ := h
    have z := Z_s dm
    have e : 2 ^ (a + 1) = 2 * 2 ^ a := by rw [Nat.pow_succ, Nat.mul_comm]
    exact ⟨a + 1, b, 2 * v + 2, by omega, by omega, by omega, by omega, q5, by omega⟩
  · rw [Nat.max_eq_left d]
    exact ⟨1, 0, 1, by omega, by omega, by omega, by decide, fun _ => rfl, by omega⟩
/-- the bound -/
theorem sq_end (h : SQ3 N k dm t 0 w1) (hN : N ≤ 249) (hw : w1 ≤ 4001) : t ≤ 2046 := by
  obtain ⟨a, b, v, q1, q2, q3, q4, q5, q6⟩ := h
  have z := Z_le dm
  have ha : a ≤ 11 := by
    by_cases c : a ≤ 11
    · exact c
    · have : 2 ^ 12 ≤ 2 ^ a := Nat.pow_le_pow_right (by omega) (by omega)
      have e : (2 : Nat) ^ 12 = 4096 := by decide
      omega
  by_cases c : 8 ≤ k
  · omega
  · by_cases c0 : k = 0
    · have := q5 c0; omega
    · omega
end SQs
section SRs
variable {G : pgm} {c0 : Nat}
theorem kR_le : ∀ f p e n a r, WB G f p e n a r → kR G f p e ≤ e - p ∧ (kR G f p e = 0 → 5000 ≤ dmR G f p e) := by
  intro f
  induction f with
  | zero => exact fun p e n a r w => ⟨Nat.zero_le _, fun _ => Nat.le_refl _⟩
  | succ f ih =>
    intro p e n a r w
    unfold kR dmR
    rcases w with w | ⟨w1, e1, e2, e3, w2, w3, w⟩
    · rw [if_neg (by omega), if_neg (by omega)]
      exact ⟨Nat.zero_le _, fun _ => Nat.le_refl _⟩
    · rw [if_pos w1, if_pos w1]
      by_cases k4 : G.kd p = 4
      · rw [if_pos k4] at w
        obtain ⟨n', -, -, q3, q4⟩ := w
        have i1 := ih _ _ _ _ _ q3
        have i2 := ih _ _ _ _ _ q4
        rw [if_neg (by omega), if_neg (by omega), if_pos k4, if_neg (by omega), if_neg (by omega)]
        exact ⟨by omega, fun z => by omega⟩
      · rw [if_neg k4] at w
        by_cases k5 : G.kd p = 5
        · rw [if_pos k5] at w
          obtain ⟨m1, m2, -, q3, q4, q5⟩ := w
          have i1 := ih _ _ _ _ _ q3
          have i2 := ih _ _ _ _ _ q4
          have i3 := ih _ _ _ _ _ q5
          rw [if_neg (by omega), if_pos k5, if_neg (by omega), if_pos k5]
          exact ⟨by omega, fun z => by have a1 := i1.2 (by omega); have a2 := i2.2 (by omega); have a3 := i3.2 (by omega); omega⟩
        · rw [if_neg k5] at w
          by_cases k6 : G.kd p = 6
          · rw [if_pos k6] at w
            obtain ⟨-, q3, q4⟩ := w
            have i1 := ih _ _ _ _ _ q3
            have i3 := ih _ _ _ _ _ q4
            rw [if_pos k6, if_pos k6]
            exact ⟨by omega, fun z => by have a1 := i1.2 (by omega); have a3 := i3.2 (by omega); omega⟩
          · rw [if_neg k6] at w
            obtain ⟨-, n', a', r', -, -, -, -, q5⟩ := w
            have i3 := ih _ _ _ _ _ q5
            rw [if_neg k6, if_neg k5, if_neg k4, if_neg k6, if_neg k5]
            exact ⟨by omega, fun z => by omega⟩
end SRs
