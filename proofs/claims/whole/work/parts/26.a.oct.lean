set_option maxRecDepth 100000
/-! OCTAGONS: m i j bounds v_j - v_i, where v_2x = x and v_(2x+1) = -x; tight closure (pure, no machine) -/
abbrev oc_M : Type := Nat → Nat → Int
def oc_b (i : Nat) : Nat := if i % 2 = 0 then i + 1 else i - 1
theorem oc_bb (i : Nat) : oc_b (oc_b i) = i := by unfold oc_b; split <;> split <;> omega
theorem oc_bl {i n : Nat} (h : i < 2 * n) : oc_b i < 2 * n := by unfold oc_b; split <;> omega
theorem oc_bn (i : Nat) : oc_b i ≠ i := by unfold oc_b; split <;> omega
theorem oc_bh (i : Nat) : oc_b i / 2 = i / 2 := by unfold oc_b; split <;> omega
theorem oc_be (p : Nat) : oc_b (2 * p) = 2 * p + 1 := by unfold oc_b; split <;> omega
theorem oc_bo (p : Nat) : oc_b (2 * p + 1) = 2 * p := by unfold oc_b; split <;> omega
/-- coherent, 0 on the way to oneself -/
def oc_C (n : Nat) (m : oc_M) : Prop := (∀ i, i < 2 * n → m i i = 0) ∧ ∀ i j, i < 2 * n → j < 2 * n → m i j = m (oc_b j) (oc_b i)
/-- closed by way of k -/
def oc_by (n : Nat) (m : oc_M) (k : Nat) : Prop := ∀ i j, i < 2 * n → j < 2 * n → m i j ≤ m i k + m k j
/-- tightly closed -/
def oc_T (n : Nat) (m : oc_M) : Prop := oc_C n m ∧ (∀ k, k < 2 * n → oc_by n m k) ∧ (∀ i, i < 2 * n → m i (oc_b i) % 2 = 0) ∧ ∀ i j, i < 2 * n → j < 2 * n → 2 * m i j ≤ m i (oc_b i) + m (oc_b j) j
def oc_le (n : Nat) (a m : oc_M) : Prop := ∀ i j, i < 2 * n → j < 2 * n → a i j ≤ m i j
/-- a slot's two rows: the ways from it and from its other sign -/
def oc_e (p : Nat) (m : oc_M) (j : Nat) : Int := min (m (2 * p) j) (m (2 * p) (2 * p + 1) + m (2 * p + 1) j)
def oc_o (p : Nat) (m : oc_M) (j : Nat) : Int := min (m (2 * p + 1) j) (m (2 * p + 1) (2 * p) + m (2 * p) j)
/-- all ways through a slot -/
def oc_piv (p : Nat) (m : oc_M) : oc_M := fun i j => min (m i j) (min (oc_o p m (oc_b i) + oc_e p m j) (oc_e p m (oc_b i) + oc_o p m j))
theorem oc_piv_le (n p : Nat) (m : oc_M) : oc_le n (oc_piv p m) m := fun i j _ _ => by unfold oc_piv; omega
/-- the ways to a slot are the ways from it, turned round -/
theorem oc_toE {n p : Nat} {m : oc_M} (hC : oc_C n m) (hp : p < n) {i : Nat} (hi : i < 2 * n) : oc_o p m (oc_b i) = min (m i (2 * p)) (m i (2 * p + 1) + m (2 * p + 1) (2 * p)) := by
  unfold oc_o
  rw [hC.2 (2 * p + 1) (oc_b i) (by omega) (oc_bl hi), hC.2 (2 * p) (oc_b i) (by omega) (oc_bl hi), oc_bb, oc_bo, oc_be]
  rw [Int.add_comm (m (2 * p + 1) (2 * p))]
theorem oc_toO {n p : Nat} {m : oc_M} (hC : oc_C n m) (hp : p < n) {i : Nat} (hi : i < 2 * n) : oc_e p m (oc_b i) = min (m i (2 * p + 1)) (m i (2 * p) + m (2 * p) (2 * p + 1)) := by
  unfold oc_e
  rw [hC.2 (2 * p + 1) (oc_b i) (by omega) (oc_bl hi), hC.2 (2 * p) (oc_b i) (by omega) (oc_bl hi), oc_bb, oc_bo, oc_be]
  rw [Int.add_comm (m (2 * p) (2 * p + 1))]
theorem oc_piv_c {n p : Nat} {m : oc_M} (hC : oc_C n m) {i j : Nat} (hi : i < 2 * n) (hj : j < 2 * n) : oc_piv p m i j = oc_piv p m (oc_b j) (oc_b i) := by
  unfold oc_piv
  rw [hC.2 i j hi hj, oc_bb]
  omega
theorem oc_piv_C {n p : Nat} {m : oc_M} (hC : oc_C n m) (hz : ∀ i, i < 2 * n → 0 ≤ oc_piv p m i i) : oc_C n (oc_piv p m) := by
  refine ⟨fun i hi => ?_, fun i j hi hj => oc_piv_c hC hi hj⟩
  have h1 := hz i hi
  have h2 := oc_piv_le n p m i i hi hi
  have h3 := hC.1 i hi
  omega
theorem oc_piv_at {n p : Nat} {m : oc_M} (hC : oc_C n m) (hp : p < n) (hn : 0 ≤ m (2 * p) (2 * p + 1) + m (2 * p + 1) (2 * p)) {i j : Nat} (hi : i < 2 * n) (hj : j < 2 * n) :
    oc_piv p m i (2 * p) = oc_o p m (oc_b i) ∧ oc_piv p m i (2 * p + 1) = oc_e p m (oc_b i) ∧ oc_piv p m (2 * p) j = oc_e p m j ∧ oc_piv p m (2 * p + 1) j = oc_o p m j := by
  have z1 := hC.1 (2 * p) (by omega)
  have z2 := hC.1 (2 * p + 1) (by omega)
  have e1 := oc_toE hC hp hi
  have e2 := oc_toO hC hp hi
  have f1 := oc_toE hC hp (i := 2 * p) (by omega)
  have f2 := oc_toO hC hp (i := 2 * p) (by omega)
  have g1 := oc_toE hC hp (i := 2 * p + 1) (by omega)
  have g2 := oc_toO hC hp (i := 2 * p + 1) (by omega)
  unfold oc_piv
  rw [e1, e2, f1, f2, g1, g2]
  unfold oc_e oc_o
  refine ⟨?_, ?_, ?_, ?_⟩ <;> omega
theorem oc_piv_by {n p : Nat} {m : oc_M} (hC : oc_C n m) (hp : p < n) (hn : 0 ≤ m (2 * p) (2 * p + 1) + m (2 * p + 1) (2 * p)) : oc_by n (oc_piv p m) (2 * p) ∧ oc_by n (oc_piv p m) (2 * p + 1) := by
  constructor
  · intro i j hi hj
    obtain ⟨a1, a2, a3, a4⟩ := oc_piv_at hC hp hn hi hj
    rw [a1, a3]
    unfold oc_piv
    omega
  · intro i j hi hj
    obtain ⟨a1, a2, a3, a4⟩ := oc_piv_at hC hp hn hi hj
    rw [a2, a4]
    unfold oc_piv
    omega
theorem oc_piv_keep {n p k : Nat} {m : oc_M} (hC : oc_C n m) (hp : p < n) (hk : k < 2 * n) (hn : 0 ≤ m (2 * p) (2 * p + 1) + m (2 * p + 1) (2 * p)) (hb : oc_by n m k) : oc_by n (oc_piv p m) k := by
  intro i j hi hj
  have z1 := hC.1 (2 * p) (by omega)
  have z2 := hC.1 (2 * p + 1) (by omega)
  have e1 := oc_toE hC hp hi
  have e2 := oc_toO hC hp hi
  have f1 := oc_toE hC hp hk
  have f2 := oc_toO hC hp hk
  have b1 := hb i j hi hj
  have b2 := hb i (2 * p) hi (by omega)
  have b3 := hb i (2 * p + 1) hi (by omega)
  have b4 := hb (2 * p) j (by omega) hj
  have b5 := hb (2 * p + 1) j (by omega) hj
  have b6 := hb (2 * p) (2 * p) (by omega) (by omega)
  have b7 := hb (2 * p + 1) (2 * p + 1) (by omega) (by omega)
  have b8 := hb (2 * p) (2 * p + 1) (by omega) (by omega)
  have b9 := hb (2 * p + 1) (2 * p) (by omega) (by omega)
  -- the four roads
  have A1 : oc_o p m (oc_b i) ≤ m i k + oc_o p m (oc_b k) := by omega
  have A2 : oc_e p m (oc_b i) ≤ m i k + oc_e p m (oc_b k) := by omega
  have A3 : oc_e p m j ≤ oc_e p m k + m k j := by unfold oc_e; omega
  have A4 : oc_o p m j ≤ oc_o p m k + m k j := by unfold oc_o; omega
  have B1 : 0 ≤ oc_e p m k + oc_o p m (oc_b k) := by rw [f1]; unfold oc_e; omega
  have B2 : 0 ≤ oc_o p m k + oc_e p m (oc_b k) := by rw [f2]; unfold oc_o; omega
  have B3 : m (2 * p) (2 * p + 1) ≤ oc_e p m k + oc_e p m (oc_b k) := by rw [f2]; unfold oc_e; omega
  have B4 : m (2 * p + 1) (2 * p) ≤ oc_o p m k + oc_o p m (oc_b k) := by rw [f1]; unfold oc_o; omega
  have C1 : oc_e p m (oc_b i) ≤ oc_o p m (oc_b i) + m (2 * p) (2 * p + 1) := by rw [e1, e2]; omega
  have C2 : oc_o p m (oc_b i) ≤ oc_e p m (oc_b i) + m (2 * p + 1) (2 * p) := by rw [e1, e2]; omega
  unfold oc_piv
  generalize oc_o p m (oc_b i) = oi at *
  generalize oc_e p m (oc_b i) = ei at *
  generalize oc_o p m (oc_b k) = ok at *
  generalize oc_e p m (oc_b k) = ek at *
  generalize oc_e p m j = ej at *
  generalize oc_o p m j = oj at *
  generalize oc_e p m k = ee at *
  generalize oc_o p m k = oo at *
  clear e1 e2 f1 f2 b2 b3 b4 b5 b6 b7 b8 b9
  omega
/-! closing anew: c was closed, m differs from it only between loose slots -/
/-- what is less than before ends with, and begins with, an old step at a loose slot -/
def oc_D (n : Nat) (L : Nat → Bool) (c m : oc_M) : Prop := oc_le n m c ∧ (∀ i k, i < 2 * n → k < 2 * n → L (k / 2) = false → m i k = c i k ∨ ∃ l, l < 2 * n ∧ L (l / 2) = true ∧ m i l + c l k ≤ m i k) ∧ ∀ i k, i < 2 * n → k < 2 * n → L (i / 2) = false → m i k = c i k ∨ ∃ l, l < 2 * n ∧ L (l / 2) = true ∧ c i l + m l k ≤ m i k
theorem oc_D_piv {n p : Nat} {L : Nat → Bool} {c m : oc_M} (hC : oc_C n m) (hp : p < n) (hL : L p = true) (hn : 0 ≤ m (2 * p) (2 * p + 1) + m (2 * p + 1) (2 * p)) (hD : oc_D n L c m) : oc_D n L c (oc_piv p m) := by
  obtain ⟨d1, d2, d3⟩ := hD
  have hle := oc_piv_le n p m
  have hE : L (2 * p / 2) = true := by rw [show 2 * p / 2 = p by omega]; exact hL
  have hO : L ((2 * p + 1) / 2) = true := by rw [show (2 * p + 1) / 2 = p by omega]; exact hL
  refine ⟨fun i j hi hj => Int.le_trans (hle i j hi hj) (d1 i j hi hj), fun i k hi hk hk0 => ?_, fun i k hi hk hi0 => ?_⟩
  · -- the way to k: each way through the slot ends as the slot's own ways do
    obtain ⟨p1, p2, -, -⟩ := oc_piv_at hC hp hn hi hk
    have last : ∀ s, (s = 2 * p ∨ s = 2 * p + 1) → ∃ l, l < 2 * n ∧ L (l / 2) = true ∧ oc_piv p m i l + c l k ≤ oc_piv p m i s + m s k := by
      intro s hs
      have hs2 : s < 2 * n := by omega
      rcases d2 s k hs2 hk hk0 with q | ⟨l, l1, l2, l3⟩
      · refine ⟨s, hs2, ?_, by rw [q]; exact Int.le_refl _⟩
        rcases hs with rfl | rfl
        · exact hE
        · exact hO
      · refine ⟨l, l1, l2, ?_⟩
        have hby := oc_piv_by hC hp hn
        have t : oc_piv p m i l ≤ oc_piv p m i s + oc_piv p m s l := by
          rcases hs with rfl | rfl
          · exact hby.1 i l hi l1
          · exact hby.2 i l hi l1
        have := hle s l hs2 l1
        omega
    by_cases hsame : oc_piv p m i k = m i k
    · rcases d2 i k hi hk hk0 with q | ⟨l, l1, l2, l3⟩
      · left; rw [hsame, q]
      · right
        refine ⟨l, l1, l2, ?_⟩
        have := hle i l hi l1
        omega
    · right
      have e1 := oc_toE hC hp hi
      have e2 := oc_toO hC hp hi
      obtain ⟨la, la1, la2, la3⟩ := last (2 * p) (Or.inl rfl)
      obtain ⟨lb, lb1, lb2, lb3⟩ := last (2 * p + 1) (Or.inr rfl)
      rw [p1] at la3
      rw [p2] at lb3
      have hval : oc_piv p m i k = oc_o p m (oc_b i) + m (2 * p) k ∨ oc_piv p m i k = oc_e p m (oc_b i) + m (2 * p + 1) k ∨ oc_piv p m i k ≥ oc_o p m (oc_b i) + m (2 * p) k ∨ oc_piv p m i k ≥ oc_e p m (oc_b i) + m (2 * p + 1) k := by
        have C1 : oc_e p m (oc_b i) ≤ oc_o p m (oc_b i) + m (2 * p) (2 * p + 1) := by rw [e1, e2]; omega
        have C2 : oc_o p m (oc_b i) ≤ oc_e p m (oc_b i) + m (2 * p + 1) (2 * p) := by rw [e1, e2]; omega
        unfold oc_piv at hsame ⊢
        unfold oc_e oc_o at *
        omega
      rcases hval with q | q | q | q
      · exact ⟨la, la1, la2, by omega⟩
      · exact ⟨lb, lb1, lb2, by omega⟩
      · exact ⟨la, la1, la2, by omega⟩
      · exact ⟨lb, lb1, lb2, by omega⟩
  · obtain ⟨-, -, p3, p4⟩ := oc_piv_at hC hp hn hi hk
    have first : ∀ s, (s = 2 * p ∨ s = 2 * p + 1) → ∃ l, l < 2 * n ∧ L (l / 2) = true ∧ c i l + oc_piv p m l k ≤ m i s + oc_piv p m s k := by
      intro s hs
      have hs2 : s < 2 * n := by omega
      rcases d3 i s hi hs2 hi0 with q | ⟨l, l1, l2, l3⟩
      · refine ⟨s, hs2, ?_, by rw [q]; exact Int.le_refl _⟩
        rcases hs with rfl | rfl
        · exact hE
        · exact hO
      · refine ⟨l, l1, l2, ?_⟩
        have hby := oc_piv_by hC hp hn
        have t : oc_piv p m l k ≤ oc_piv p m l s + oc_piv p m s k := by
          rcases hs with rfl | rfl
          · exact hby.1 l k l1 hk
          · exact hby.2 l k l1 hk
        have := hle l s l1 hs2
        omega
    by_cases hsame : oc_piv p m i k = m i k
    · rcases d3 i k hi hk hi0 with q | ⟨l, l1, l2, l3⟩
      · left; rw [hsame, q]
      · right
        refine ⟨l, l1, l2, ?_⟩
        have := hle l k l1 hk
        omega
    · right
      have e1 := oc_toE hC hp hi
      have e2 := oc_toO hC hp hi
      obtain ⟨la, la1, la2, la3⟩ := first (2 * p) (Or.inl rfl)
      obtain ⟨lb, lb1, lb2, lb3⟩ := first (2 * p + 1) (Or.inr rfl)
      rw [p3] at la3
      rw [p4] at lb3
      have hval : oc_piv p m i k ≥ m i (2 * p) + oc_e p m k ∨ oc_piv p m i k ≥ m i (2 * p + 1) + oc_o p m k := by
        unfold oc_piv at hsame ⊢
        rw [e1, e2] at hsame ⊢
        unfold oc_e oc_o at *
        omega
      rcases hval with q | q
      · exact ⟨la, la1, la2, by omega⟩
      · exact ⟨lb, lb1, lb2, by omega⟩
/-- at the end all ways are closed -/
theorem oc_D_end {n : Nat} {L : Nat → Bool} {c m : oc_M} (hc : ∀ k, k < 2 * n → oc_by n c k) (hD : oc_D n L c m) (hL : ∀ k, k < 2 * n → L (k / 2) = true → oc_by n m k) : ∀ k, k < 2 * n → oc_by n m k := by
  intro k hk
  cases hk0 : L (k / 2) with
  | true => exact hL k hk hk0
  | false =>
    intro i j hi hj
    obtain ⟨d1, d2, d3⟩ := hD
    rcases d2 i k hi hk hk0 with q | ⟨l, l1, l2, l3⟩
    · rcases d3 k j hk hj hk0 with q' | ⟨l', l1', l2', l3'⟩
      · rw [q, q']
        exact Int.le_trans (d1 i j hi hj) (hc k hk i j hi hj)
      · have a1 := hc k hk i l' hi l1'
        have a2 := d1 i l' hi l1'
        have a3 := hL l' l1' l2' i j hi hj
        omega
    · rcases d3 k j hk hj hk0 with q' | ⟨l', l1', l2', l3'⟩
      · have a1 := hc k hk l j l1 hj
        have a2 := d1 l j l1 hj
        have a3 := hL l l1 l2 i j hi hj
        omega
      · have a1 := hc k hk l l' l1 l1'
        have a2 := d1 l l' l1 l1'
        have a3 := hL l l1 l2 i j hi hj
        have a4 := hL l' l1' l2' l j l1 hj
        omega
/-! rounding, and adding up -/
def oc_rd (m : oc_M) : oc_M := fun i j => if j = oc_b i then 2 * (m i j / 2) else m i j
def oc_up (m : oc_M) : oc_M := fun i j => min (m i j) (m i (oc_b i) / 2 + m (oc_b j) j / 2)
theorem oc_tight {n : Nat} {m : oc_M} (hC : oc_C n m) (hb : ∀ k, k < 2 * n → oc_by n m k) (hn : ∀ i, i < 2 * n → 0 ≤ oc_rd m i (oc_b i) + oc_rd m (oc_b i) i) : oc_T n (oc_up (oc_rd m)) := by
  have hu : ∀ i, oc_rd m i (oc_b i) = 2 * (m i (oc_b i) / 2) := fun i => by unfold oc_rd; rw [if_pos rfl]
  have hu' : ∀ i, oc_rd m (oc_b i) i = 2 * (m (oc_b i) i / 2) := fun i => by unfold oc_rd; rw [if_pos (oc_bb i).symm]
  have hne : ∀ i j, j ≠ oc_b i → oc_rd m i j = m i j := fun i j h => by unfold oc_rd; rw [if_neg h]
  have hU : ∀ i j, oc_up (oc_rd m) i j = min (oc_rd m i j) (m i (oc_b i) / 2 + m (oc_b j) j / 2) := fun i j => by
    unfold oc_up
    rw [hu, hu']
    omega
  have hs : ∀ i, i < 2 * n → 0 ≤ m i (oc_b i) / 2 + m (oc_b i) i / 2 := fun i hi => by
    have := hn i hi
    rw [hu, hu'] at this
    omega
  have hle : ∀ i j, oc_rd m i j ≤ m i j := fun i j => by unfold oc_rd; split <;> omega
  have hself : ∀ i, i < 2 * n → oc_up (oc_rd m) i i = 0 := fun i hi => by
    rw [hU, hne i i (oc_bn i).symm, hC.1 i hi]
    have := hs i hi
    omega
  -- half of the unary bounds
  have r1 : ∀ i k, i < 2 * n → k < 2 * n → m i (oc_b i) / 2 ≤ m i k + m k (oc_b k) / 2 := fun i k hi hk => by
    have a1 := hb k hk i (oc_b i) hi (oc_bl hi)
    have a2 := hb (oc_b k) (oc_bl hk) k (oc_b i) hk (oc_bl hi)
    have a3 := hC.2 i k hi hk
    omega
  have r2 : ∀ j k, j < 2 * n → k < 2 * n → m (oc_b j) j / 2 ≤ m (oc_b k) k / 2 + m k j := fun j k hj hk => by
    have a1 := hb k hk (oc_b j) j (oc_bl hj) hj
    have a2 := hb (oc_b k) (oc_bl hk) (oc_b j) k (oc_bl hj) hk
    have a3 := hC.2 k j hk hj
    omega
  refine ⟨⟨hself, fun i j hi hj => ?_⟩, fun k hk i j hi hj => ?_, fun i hi => ?_, fun i j hi hj => ?_⟩
  · rw [hU, hU]
    simp only [oc_bb]
    have e : oc_rd m i j = oc_rd m (oc_b j) (oc_b i) := by
      by_cases q : j = oc_b i
      · subst q
        rw [oc_bb]
      · rw [hne i j q, hne (oc_b j) (oc_b i) (fun z => q (by rw [oc_bb] at z; exact z.symm)), hC.2 i j hi hj]
    rw [e]
    omega
  · -- a way by k
    by_cases e1 : k = i
    · subst e1; rw [hself k hk]; omega
    by_cases e2 : k = j
    · subst e2; rw [hself k hk]; omega
    have si := hs i hi
    have sj := hs j hj
    have sk := hs k hk
    have q1 := r1 i k hi hk
    have q2 := r2 j k hj hk
    rw [hU i j, hU i k, hU k j]
    by_cases f1 : k = oc_b i
    · subst f1
      rw [hu i]
      rw [oc_bb] at *
      by_cases f2 : j = i
      · subst f2
        rw [hu' j, hne j j (oc_bn j).symm, hC.1 j hj]
        omega
      · rw [hne (oc_b i) j (by rw [oc_bb]; exact f2)]
        have q3 := r2 j (oc_b i) hj hk
        rw [oc_bb] at q3
        omega
    · rw [hne i k f1]
      by_cases f2 : j = oc_b k
      · subst f2
        rw [hu k]
        rw [oc_bb] at *
        have q3 := r1 i k hi hk
        omega
      · rw [hne k j f2]
        have a1 := hb k hk i j hi hj
        have a2 := hle i j
        omega
  · rw [hU, hu, oc_bb]
    omega
  · rw [hU i j, hU i (oc_b i), hU (oc_b j) j, hu, hu']
    simp only [oc_bb]
    omega
/-! what is tightly closed and below stays below -/
theorem oc_piv_ge {n p : Nat} {a m : oc_M} (hT : oc_T n a) (hp : p < n) (h : oc_le n a m) : oc_le n a (oc_piv p m) := by
  intro i j hi hj
  have hb1 := hT.2.1 (2 * p) (by omega)
  have hb2 := hT.2.1 (2 * p + 1) (by omega)
  have c1 := hT.1.2 i (2 * p) hi (by omega)
  have c2 := hT.1.2 i (2 * p + 1) hi (by omega)
  rw [oc_be] at c1
  rw [oc_bo] at c2
  have a1 := hb1 i j hi hj
  have a2 := hb2 i j hi hj
  have a3 := hb1 (2 * p + 1) j (by omega) hj
  have a4 := hb2 (2 * p) j (by omega) hj
  have a5 := hb1 (2 * p + 1) (oc_b i) (by omega) (oc_bl hi)
  have a6 := hb2 (2 * p) (oc_b i) (by omega) (oc_bl hi)
  have h0 := h i j hi hj
  have h1 := h (2 * p) j (by omega) hj
  have h2 := h (2 * p + 1) j (by omega) hj
  have h3 := h (2 * p) (oc_b i) (by omega) (oc_bl hi)
  have h4 := h (2 * p + 1) (oc_b i) (by omega) (oc_bl hi)
  have h5 := h (2 * p) (2 * p + 1) (by omega) (by omega)
  have h6 := h (2 * p + 1) (2 * p) (by omega) (by omega)
  unfold oc_piv oc_e oc_o
  omega
theorem oc_rd_ge {n : Nat} {a m : oc_M} (hT : oc_T n a) (h : oc_le n a m) : oc_le n a (oc_rd m) := by
  intro i j hi hj
  have h0 := h i j hi hj
  unfold oc_rd
  split
  · next q => subst q; have := hT.2.2.1 i hi; omega
  · exact h0
theorem oc_up_ge {n : Nat} {a m : oc_M} (hT : oc_T n a) (h : oc_le n a m) : oc_le n a (oc_up m) := by
  intro i j hi hj
  have h0 := h i j hi hj
  have h1 := h i (oc_b i) hi (oc_bl hi)
  have h2 := h (oc_b j) j (oc_bl hj) hj
  have h3 := hT.2.2.2 i j hi hj
  have h4 := hT.2.2.1 i hi
  have h5 := hT.2.2.1 (oc_b j) (oc_bl hj)
  rw [oc_bb] at h5
  unfold oc_up
  omega
/-- the greatest tightly closed one below m: there is one at most -/
def oc_G (n : Nat) (m t : oc_M) : Prop := oc_T n t ∧ oc_le n t m ∧ ∀ a, oc_T n a → oc_le n a m → oc_le n a t
theorem oc_G_one {n : Nat} {m t u : oc_M} (h1 : oc_G n m t) (h2 : oc_G n m u) {i j : Nat} (hi : i < 2 * n) (hj : j < 2 * n) : t i j = u i j := by
  have a := h2.2.2 t h1.1 h1.2.1 i j hi hj
  have b := h1.2.2 u h2.1 h2.2.1 i j hi hj
  omega
/-! the class's closing: through each loose slot, then rounding, then adding up -/
def oc_neg (n : Nat) (m : oc_M) : Bool := (List.range (2 * n)).any fun i => decide (m i i < 0)
/-- through the loose slots below q; none: nothing is left -/
def oc_fw (n : Nat) (L : Nat → Bool) (m : oc_M) : Nat → Option oc_M
  | 0 => some m
  | q + 1 => match oc_fw n L m q with
    | none => none
    | some m1 => match L q with
      | false => some m1
      | true => if m1 (2 * q) (2 * q + 1) + m1 (2 * q + 1) (2 * q) < 0 then none else if oc_neg n (oc_piv q m1) then none else some (oc_piv q m1)
def oc_bad (n : Nat) (m : oc_M) : Bool := (List.range n).any fun x => decide (m (2 * x) (2 * x + 1) + m (2 * x + 1) (2 * x) < 0)
def oc_cl (n : Nat) (L : Nat → Bool) (m : oc_M) : Option oc_M := match oc_fw n L m n with
  | none => none
  | some m1 => if (List.range n).any L then (if oc_bad n (oc_rd m1) then none else some (oc_up (oc_rd m1))) else some m1
theorem oc_neg_f {n : Nat} {m : oc_M} (h : oc_neg n m = false) : ∀ i, i < 2 * n → 0 ≤ m i i := by
  intro i hi
  unfold oc_neg at h
  rw [List.any_eq_false] at h
  have := h i (List.mem_range.mpr hi)
  simp only [decide_eq_true_eq] at this
  omega
theorem oc_neg_t {n : Nat} {m : oc_M} (h : oc_neg n m = true) : ∃ i, i < 2 * n ∧ m i i < 0 := by
  unfold oc_neg at h
  rw [List.any_eq_true] at h
  obtain ⟨i, h1, h2⟩ := h
  exact ⟨i, List.mem_range.mp h1, of_decide_eq_true h2⟩
/-- a tightly closed one has no way round below 0 -/
theorem oc_T_cyc {n i j : Nat} {a : oc_M} (hT : oc_T n a) (hi : i < 2 * n) (hj : j < 2 * n) : 0 ≤ a i j + a j i := by
  have := hT.2.1 j hj i i hi hi
  rw [hT.1.1 i hi] at this
  exact this
theorem oc_fw_inv {n : Nat} {L : Nat → Bool} {c m : oc_M} (hC : oc_C n m) (hD : oc_D n L c m) : ∀ q, q ≤ n → (∀ m1, oc_fw n L m q = some m1 → oc_C n m1 ∧ oc_D n L c m1 ∧ oc_le n m1 m ∧ (∀ k, k < 2 * q → L (k / 2) = true → oc_by n m1 k) ∧ ∀ a, oc_T n a → oc_le n a m → oc_le n a m1) ∧ (oc_fw n L m q = none → ∀ a, oc_T n a → ¬ oc_le n a m) := by
  intro q
  induction q with
  | zero =>
    intro _
    refine ⟨fun m1 e => ?_, fun e => by cases e⟩
    cases e
    exact ⟨hC, hD, fun i j _ _ => Int.le_refl _, fun k hk => absurd hk (by omega), fun a _ h => h⟩
  | succ q ih =>
    intro hq
    obtain ⟨i1, i2⟩ := ih (by omega)
    unfold oc_fw
    cases e1 : oc_fw n L m q with
    | none => exact ⟨fun m1 e => (by cases e), fun _ => i2 e1⟩
    | some m1 =>
      obtain ⟨c1, d1, l1, b1, g1⟩ := i1 m1 e1
      cases eL : L q with
      | false =>
        refine ⟨fun m2 e => ?_, fun e => by cases e⟩
        cases e
        refine ⟨c1, d1, l1, fun k hk hk1 => b1 k ?_ hk1, g1⟩
        rcases Nat.lt_or_ge k (2 * q) with z | z
        · exact z
        · have : k / 2 = q := by omega
          rw [this, eL] at hk1
          cases hk1
      | true =>
        dsimp only
        by_cases hn : m1 (2 * q) (2 * q + 1) + m1 (2 * q + 1) (2 * q) < 0
        · rw [if_pos hn]
          refine ⟨fun m2 e => (by cases e), fun _ a ha hle => ?_⟩
          have z := g1 a ha hle
          have z1 := z (2 * q) (2 * q + 1) (by omega) (by omega)
          have z2 := z (2 * q + 1) (2 * q) (by omega) (by omega)
          have z3 := oc_T_cyc ha (i := 2 * q) (j := 2 * q + 1) (by omega) (by omega)
          omega
        · rw [if_neg hn]
          have hp : q < n := by omega
          have gp : ∀ a, oc_T n a → oc_le n a m → oc_le n a (oc_piv q m1) := fun a ha hle => oc_piv_ge ha hp (g1 a ha hle)
          cases eN : oc_neg n (oc_piv q m1) with
          | true =>
            rw [if_pos rfl]
            refine ⟨fun m2 e => (by cases e), fun _ a ha hle => ?_⟩
            obtain ⟨i, hi, z⟩ := oc_neg_t eN
            have z1 := gp a ha hle i i hi hi
            rw [ha.1.1 i hi] at z1
            omega
          | false =>
            rw [if_neg (by decide)]
            refine ⟨fun m2 e => ?_, fun e => by cases e⟩
            cases e
            have hn' : 0 ≤ m1 (2 * q) (2 * q + 1) + m1 (2 * q + 1) (2 * q) := by omega
            refine ⟨oc_piv_C c1 (oc_neg_f eN), oc_D_piv c1 hp eL hn' d1, fun i j hi hj => Int.le_trans (oc_piv_le n q m1 i j hi hj) (l1 i j hi hj), fun k hk hk1 => ?_, gp⟩
            rcases Nat.lt_or_ge k (2 * q) with z | z
            · exact oc_piv_keep c1 hp (by omega) hn' (b1 k z hk1)
            · have hby := oc_piv_by c1 hp hn'
              have : k = 2 * q ∨ k = 2 * q + 1 := by omega
              rcases this with rfl | rfl
              · exact hby.1
              · exact hby.2
/-- where m differs from what was closed only between loose slots -/
theorem oc_D_start {n : Nat} {L : Nat → Bool} {c m : oc_M} (hle : oc_le n m c) (hd : ∀ i j, i < 2 * n → j < 2 * n → m i j ≠ c i j → L (i / 2) = true ∧ L (j / 2) = true) : oc_D n L c m := by
  refine ⟨hle, fun i k hi hk h0 => Or.inl ?_, fun i k hi hk h0 => Or.inl ?_⟩
  · apply Classical.byContradiction
    intro z
    have := (hd i k hi hk z).2
    rw [h0] at this
    cases this
  · apply Classical.byContradiction
    intro z
    have := (hd i k hi hk z).1
    rw [h0] at this
    cases this
theorem oc_cl_ok {n : Nat} {L : Nat → Bool} {c m : oc_M} (hc : oc_T n c) (hC : oc_C n m) (hle : oc_le n m c) (hd : ∀ i j, i < 2 * n → j < 2 * n → m i j ≠ c i j → L (i / 2) = true ∧ L (j / 2) = true) : (∀ t, oc_cl n L m = some t → oc_G n m t) ∧ (oc_cl n L m = none → ∀ a, oc_T n a → ¬ oc_le n a m) := by
  obtain ⟨i1, i2⟩ := oc_fw_inv hC (oc_D_start hle hd) n (Nat.le_refl n)
  unfold oc_cl
  cases e1 : oc_fw n L m n with
  | none => exact ⟨fun t e => (by cases e), fun _ => i2 e1⟩
  | some m1 =>
    obtain ⟨c1, d1, l1, b1, g1⟩ := i1 m1 e1
    have hby := oc_D_end hc.2.1 d1 (fun k hk hk1 => b1 k hk hk1)
    dsimp only
    cases eA : (List.range n).any L with
    | false =>
      rw [if_neg (by decide)]
      refine ⟨fun t e => ?_, fun e => by cases e⟩
      cases e
      -- nothing was loose: m1 is what was closed
      have hL : ∀ x, x < n → L x = false := fun x hx => by
        rw [List.any_eq_false] at eA
        have := eA x (List.mem_range.mpr hx)
        simpa using this
      have same : ∀ i j, i < 2 * n → j < 2 * n → m i j = c i j := fun i j hi hj => Classical.byContradiction fun z => by
        have := (hd i j hi hj z).1
        rw [hL (i / 2) (by omega)] at this
        cases this
      have hcm : oc_le n c m := fun i j hi hj => by rw [same i j hi hj]; exact Int.le_refl _
      have hcm1 := g1 c hc hcm
      have eq1 : ∀ i j, i < 2 * n → j < 2 * n → m1 i j = c i j := fun i j hi hj => by
        have a1 := hcm1 i j hi hj
        have a2 := d1.1 i j hi hj
        omega
      refine ⟨⟨c1, hby, fun i hi => ?_, fun i j hi hj => ?_⟩, l1, g1⟩
      · rw [eq1 i _ hi (oc_bl hi)]; exact hc.2.2.1 i hi
      · rw [eq1 i j hi hj, eq1 i _ hi (oc_bl hi), eq1 _ j (oc_bl hj) hj]; exact hc.2.2.2 i j hi hj
    | true =>
      rw [if_pos rfl]
      have gr : ∀ a, oc_T n a → oc_le n a m → oc_le n a (oc_rd m1) := fun a ha h => oc_rd_ge ha (g1 a ha h)
      cases eB : oc_bad n (oc_rd m1) with
      | true =>
        rw [if_pos rfl]
        refine ⟨fun t e => (by cases e), fun _ a ha h => ?_⟩
        unfold oc_bad at eB
        rw [List.any_eq_true] at eB
        obtain ⟨x, hx, z⟩ := eB
        have hx := List.mem_range.mp hx
        have z := of_decide_eq_true z
        have z1 := gr a ha h (2 * x) (2 * x + 1) (by omega) (by omega)
        have z2 := gr a ha h (2 * x + 1) (2 * x) (by omega) (by omega)
        have z3 := oc_T_cyc ha (i := 2 * x) (j := 2 * x + 1) (by omega) (by omega)
        omega
      | false =>
        rw [if_neg (by decide)]
        refine ⟨fun t e => ?_, fun e => by cases e⟩
        cases e
        have hn : ∀ i, i < 2 * n → 0 ≤ oc_rd m1 i (oc_b i) + oc_rd m1 (oc_b i) i := fun i hi => by
          unfold oc_bad at eB
          rw [List.any_eq_false] at eB
          have q := eB (i / 2) (List.mem_range.mpr (by omega))
          simp only [decide_eq_true_eq] at q
          rcases Nat.mod_two_eq_zero_or_one i with z | z
          · have e1 : 2 * (i / 2) = i := by omega
            have e2 : oc_b i = i + 1 := by unfold oc_b; rw [if_pos z]
            rw [e1] at q
            rw [e2]
            omega
          · have e1 : 2 * (i / 2) + 1 = i := by omega
            have e2 : oc_b i = 2 * (i / 2) := by unfold oc_b; rw [if_neg (by omega)]; omega
            rw [e1] at q
            rw [e2]
            omega
        refine ⟨oc_tight c1 hby hn, fun i j hi hj => ?_, fun a ha h => oc_up_ge ha (gr a ha h)⟩
        have a1 := l1 i j hi hj
        have a2 : oc_rd m1 i j ≤ m1 i j := by unfold oc_rd; split <;> omega
        have a3 : oc_up (oc_rd m1) i j ≤ oc_rd m1 i j := by unfold oc_up; omega
        omega
/-! the reference's settling, in whole numbers: S i j bounds v_i + v_j -/
abbrev si_S : Type := Nat → Nat → Int
def si_x (S : si_S) (i j : Nat) : Nat → Int → Int
  | 0, b => b
  | k + 1, b => min (si_x S i j k b) (S i k + S (oc_b k) j)
def si_b (S : si_S) (n i j : Nat) : Int := min (si_x S i j (2 * n) (min (S i j) (S j i))) ((S i i + S j j) / 2)
def si_v (S : si_S) (n i j : Nat) : Int := if i = j then 2 * (si_b S n i j / 2) else si_b S n i j
theorem si_x_le {S : si_S} {i j : Nat} {b : Int} : ∀ k, si_x S i j k b ≤ b ∧ ∀ x, x < k → si_x S i j k b ≤ S i x + S (oc_b x) j := by
  intro k
  induction k with
  | zero => exact ⟨Int.le_refl _, fun x hx => absurd hx (Nat.not_lt_zero x)⟩
  | succ k ih =>
    obtain ⟨h1, h2⟩ := ih
    unfold si_x
    refine ⟨by omega, fun x hx => ?_⟩
    by_cases c : x = k
    · subst c; omega
    · have := h2 x (by omega); omega
theorem si_x_ge {S : si_S} {i j : Nat} {b c : Int} (hb : c ≤ b) : ∀ k, (∀ x, x < k → c ≤ S i x + S (oc_b x) j) → c ≤ si_x S i j k b := by
  intro k
  induction k with
  | zero => intro _; exact hb
  | succ k ih =>
    intro h
    have h1 := ih (fun x hx => h x (by omega))
    have h2 := h k (by omega)
    unfold si_x
    omega
/-- tightly closed, in sums -/
def si_T (n : Nat) (S : si_S) : Prop := (∀ i, i < 2 * n → S i (oc_b i) = 0) ∧ (∀ i j, i < 2 * n → j < 2 * n → S i j ≤ S j i) ∧ (∀ i j x, i < 2 * n → j < 2 * n → x < 2 * n → S i j ≤ S i x + S (oc_b x) j) ∧ (∀ i, i < 2 * n → S i i % 2 = 0) ∧ ∀ i j, i < 2 * n → j < 2 * n → 2 * S i j ≤ S i i + S j j
def si_of (S : si_S) : oc_M := fun i j => S (oc_b i) j
def si_to (m : oc_M) : si_S := fun i j => m (oc_b i) j
theorem si_oc {n : Nat} {S : si_S} (h : si_T n S) : oc_T n (si_of S) := by
  obtain ⟨h1, h2, h3, h4, h5⟩ := h
  refine ⟨⟨fun i hi => ?_, fun i j hi hj => ?_⟩, fun k hk i j hi hj => ?_, fun i hi => ?_, fun i j hi hj => ?_⟩
  · have := h1 (oc_b i) (oc_bl hi)
    rw [oc_bb] at this; exact this
  · have a := h2 (oc_b i) j (oc_bl hi) hj
    have b := h2 j (oc_b i) hj (oc_bl hi)
    show S (oc_b i) j = S (oc_b (oc_b j)) (oc_b i)
    rw [oc_bb]; omega
  · exact h3 (oc_b i) j k (oc_bl hi) hj hk
  · exact h4 (oc_b i) (oc_bl hi)
  · have := h5 (oc_b i) j (oc_bl hi) hj
    show 2 * S (oc_b i) j ≤ S (oc_b i) (oc_b i) + S (oc_b (oc_b j)) j
    rw [oc_bb]; exact this
theorem oc_si {n : Nat} {m : oc_M} (h : oc_T n m) : si_T n (si_to m) := by
  obtain ⟨⟨h1, h2⟩, h3, h4, h5⟩ := h
  refine ⟨fun i hi => h1 (oc_b i) (oc_bl hi), fun i j hi hj => ?_, fun i j x hi hj hx => ?_, fun i hi => ?_, fun i j hi hj => ?_⟩
  · have := h2 (oc_b i) j (oc_bl hi) hj
    rw [oc_bb] at this
    show m (oc_b i) j ≤ m (oc_b j) i
    omega
  · have := h3 x hx (oc_b i) j (oc_bl hi) hj
    show m (oc_b i) j ≤ m (oc_b i) x + m (oc_b (oc_b x)) j
    rw [oc_bb]; exact this
  · have := h4 (oc_b i) (oc_bl hi)
    rw [oc_bb] at this; exact this
  · have := h5 (oc_b i) j (oc_bl hi) hj
    rw [oc_bb] at this; exact this
/-- what is tightly closed and below stays below -/
theorem si_v_ge {n : Nat} {A S : si_S} (hT : si_T n A) (h : ∀ i j, i < 2 * n → j < 2 * n → A i j ≤ S i j) {i j : Nat} (hi : i < 2 * n) (hj : j < 2 * n) : A i j ≤ si_v S n i j := by
  obtain ⟨h1, h2, h3, h4, h5⟩ := hT
  have b1 : A i j ≤ si_b S n i j := by
    have a1 := h i j hi hj
    have a2 := h j i hj hi
    have a3 := h2 i j hi hj
    have x1 := si_x_ge (S := S) (i := i) (j := j) (b := min (S i j) (S j i)) (c := A i j) (by omega) (2 * n) (fun x hx => by
      have c1 := h3 i j x hi hj hx
      have c2 := h i x hi hx
      have c3 := h (oc_b x) j (oc_bl hx) hj
      omega)
    have a4 := h5 i j hi hj
    have a5 := h i i hi hi
    have a6 := h j j hj hj
    unfold si_b
    omega
  unfold si_v
  split
  · next e => subst e; have := h4 i hi; omega
  · exact b1
/-- a round that changes nothing stands before what is tightly closed -/
theorem si_fix {n : Nat} {S : si_S} (hz : ∀ i, i < 2 * n → S i (oc_b i) = 0) (h : ∀ i j, i < 2 * n → j < 2 * n → S i j ≤ si_v S n i j) : si_T n S := by
  have hb : ∀ i j, i < 2 * n → j < 2 * n → S i j ≤ si_b S n i j := fun i j hi hj => by
    have := h i j hi hj
    unfold si_v at this
    split at this <;> omega
  have hx : ∀ i j, i < 2 * n → j < 2 * n → S i j ≤ S j i ∧ (∀ x, x < 2 * n → S i j ≤ S i x + S (oc_b x) j) ∧ 2 * S i j ≤ S i i + S j j := fun i j hi hj => by
    have a := hb i j hi hj
    have l := si_x_le (S := S) (i := i) (j := j) (b := min (S i j) (S j i)) (2 * n)
    unfold si_b at a
    refine ⟨by omega, fun x hx => ?_, by omega⟩
    have := l.2 x hx
    omega
  refine ⟨hz, fun i j hi hj => (hx i j hi hj).1, fun i j x hi hj hxn => (hx i j hi hj).2.1 x hxn, fun i hi => ?_, fun i j hi hj => (hx i j hi hj).2.2⟩
  have a := h i i hi hi
  have b := hb i i hi hi
  have c : si_b S n i i ≤ S i i := by
    have l := si_x_le (S := S) (i := i) (j := i) (b := min (S i i) (S i i)) (2 * n)
    unfold si_b
    omega
  unfold si_v at a
  rw [if_pos rfl] at a
  omega
/-! the reference's settling in whole numbers: bounds from below, rows, rounds -/
theorem si_v_le {S : si_S} {n i j : Nat} : si_v S n i j ≤ S i j ∧ si_v S n i j ≤ S j i ∧ ∀ x, x < 2 * n → si_v S n i j ≤ S i x + S (oc_b x) j := by
  have l := si_x_le (S := S) (i := i) (j := j) (b := min (S i j) (S j i)) (2 * n)
  have v : si_v S n i j ≤ si_b S n i j := by unfold si_v; split <;> omega
  have b : si_b S n i j ≤ si_x S i j (2 * n) (min (S i j) (S j i)) := by unfold si_b; omega
  refine ⟨by omega, by omega, fun x hx => ?_⟩
  have := l.2 x hx
  omega
theorem si_v_lo {S : si_S} {n i j : Nat} {L : Int} (h1 : L ≤ S i j) (h2 : L ≤ S j i) (hx : ∀ x, x < 2 * n → L ≤ S i x + S (oc_b x) j) (hd : 2 * L ≤ S i i + S j j) : L - 1 ≤ si_v S n i j := by
  have l := si_x_ge (S := S) (i := i) (j := j) (b := min (S i j) (S j i)) (c := L) (by omega) (2 * n) hx
  have b : L ≤ si_b S n i j := by unfold si_b; omega
  unfold si_v
  split <;> omega
def si_u (S : si_S) (n i j : Nat) : si_S := fun a b => if a = i ∧ b = j then si_v S n i j else S a b
/-- row i, up to its place k -/
def si_j (n i : Nat) : Nat → si_S → si_S
  | 0, S => S
  | k + 1, S => si_u (si_j n i k S) n i k
theorem si_j_o {n i : Nat} {S : si_S} : ∀ k a b, ¬ (a = i ∧ b < k) → si_j n i k S a b = S a b := by
  intro k
  induction k with
  | zero => intro a b _; rfl
  | succ k ih =>
    intro a b h
    show si_u (si_j n i k S) n i k a b = _
    unfold si_u
    rw [if_neg (by omega), ih a b (by omega)]
theorem si_j_v {n i : Nat} {S : si_S} : ∀ k b, b < k → si_j n i k S i b = si_v (si_j n i b S) n i b := by
  intro k
  induction k with
  | zero => intro b h; omega
  | succ k ih =>
    intro b h
    show si_u (si_j n i k S) n i k i b = _
    unfold si_u
    by_cases c : b = k
    · subst c; rw [if_pos ⟨rfl, rfl⟩]
    · rw [if_neg (by omega), ih b (by omega)]
theorem si_j_le {n i : Nat} {S : si_S} (k a b : Nat) : si_j n i k S a b ≤ S a b := by
  by_cases c : a = i ∧ b < k
  · obtain ⟨rfl, c⟩ := c
    rw [si_j_v k b c]
    have h := (si_v_le (S := si_j n a b S) (n := n) (i := a) (j := b)).1
    rw [si_j_o b a b (by omega)] at h
    exact h
  · rw [si_j_o k a b c]; exact Int.le_refl _
theorem si_j_ge {n i : Nat} {A S : si_S} (hT : si_T n A) (h : ∀ a b, a < 2 * n → b < 2 * n → A a b ≤ S a b) (hi : i < 2 * n) : ∀ k, k ≤ 2 * n → ∀ a b, a < 2 * n → b < 2 * n → A a b ≤ si_j n i k S a b := by
  intro k
  induction k with
  | zero => intro _; exact h
  | succ k ih =>
    intro hk a b ha hb
    show A a b ≤ si_u (si_j n i k S) n i k a b
    unfold si_u
    split
    · next c => obtain ⟨rfl, rfl⟩ := c; exact si_v_ge hT (ih (by omega)) ha hb
    · exact ih (by omega) a b ha hb
/-- any row: each place falls once -/
theorem si_j_low {n i : Nat} {S : si_S} {V M : Int} (hi : i < 2 * n) (hV : 0 ≤ V) (hM : V ≤ M) (hr : ∀ x, x < 2 * n → -V ≤ S i x) (ho : ∀ y x, y < 2 * n → x < 2 * n → -M ≤ S y x) : ∀ k : Nat, k ≤ 2 * n → ∀ x, x < 2 * n → -(V + k * (M + 1)) ≤ si_j n i k S i x := by
  intro k
  induction k with
  | zero => intro _ x hx; have := hr x hx; show _ ≤ S i x; simp; omega
  | succ k ih =>
    intro hk x hx
    have ih' := ih (by omega)
    have hkn : k < 2 * n := by omega
    generalize hP : (k : Int) * (M + 1) = P at ih'
    have hP0 : 0 ≤ P := by rw [← hP]; exact Int.mul_nonneg (by omega) (by omega)
    have e : ((k + 1 : Nat) : Int) * (M + 1) = P + (M + 1) := by rw [← hP]; push_cast; rw [Int.add_mul]; omega
    rw [e]
    show _ ≤ si_u (si_j n i k S) n i k i x
    unfold si_u
    split
    · next c =>
      have old : si_j n i k S i k = S i k := si_j_o k i k (by omega)
      have low := si_v_lo (S := si_j n i k S) (n := n) (i := i) (j := k) (L := -(V + P + M)) (by have := ih' k hkn; omega) (by
          by_cases q : k = i
          · rw [q] at hkn ⊢; have := ih' i hkn; rw [q] at this; omega
          · rw [si_j_o k k i (by omega)]; have := ho k i hkn hi; omega) (fun y hy => by
          have a := ih' y hy
          by_cases q : oc_b y = i
          · rw [q, old]; have := hr k hkn; omega
          · rw [si_j_o k (oc_b y) k (by omega)]; have := ho (oc_b y) k (oc_bl hy) hkn; omega) (by
          have a := ih' i hi
          by_cases q : k = i
          · have := ih' i hi; rw [q] at this ⊢; omega
          · rw [si_j_o k k k (by omega)]; have := ho k k hkn hkn; omega)
      omega
    · have := ih' x hx; omega
/-- a row whose way to oneself stays at 0 -/
theorem si_row {n i : Nat} {S : si_S} {U V K : Int} (hi : i < 2 * n) (hU : 0 ≤ U) (hV : U ≤ V) (hV1 : 1 ≤ V) (hK : V ≤ K) (hg : ∀ a, a < 2 * n → S a a ≤ U) (hw : ∀ a b, a < i → b < 2 * n → S a b ≤ U) (hd : ∀ y x, y < 2 * n → x < 2 * n → -K ≤ S y x) (hl : ∀ y x, i ≤ y → y < 2 * n → x < 2 * n → -V ≤ S y x) (hodd : i % 2 = 1 → 0 ≤ S (oc_b i) i) (ok : 0 ≤ si_j n i (2 * n) S i (oc_b i)) : ((∀ a b, a < 2 * n → b < 2 * n → S a b ≤ U) → ∀ x, x < 2 * n → -U ≤ S i x) ∧ (∀ x, x < 2 * n → si_j n i (2 * n) S i x ≤ U) ∧ ∀ x : Nat, x < 2 * n → -(2 * V + 1 + K + x * (V + 1)) ≤ si_j n i (2 * n) S i x := by
  have hp := oc_bl hi
  have T : (∀ a b, a < 2 * n → b < 2 * n → S a b ≤ U) → ∀ x, x < 2 * n → -U ≤ si_j n i (oc_b i) S i x := fun hu x hx => by
    rw [si_j_v (2 * n) (oc_b i) hp] at ok
    have a := (si_v_le (S := si_j n i (oc_b i) S) (n := n) (i := i) (j := oc_b i)).2.2 x hx
    have b := si_j_le (n := n) (i := i) (S := S) (oc_b i) (oc_b x) (oc_b i)
    have c := hu (oc_b x) (oc_b i) (oc_bl hx) hp
    omega
  have S0 : ∀ x, x < 2 * n → -V ≤ S i x := fun x hx => hl i x (Nat.le_refl _) hi hx
  have vb : ∀ x, x < oc_b i → -U ≤ si_v (si_j n i x S) n i x := fun x hx => by
    rw [si_j_v (2 * n) (oc_b i) hp] at ok
    have a := (si_v_le (S := si_j n i (oc_b i) S) (n := n) (i := i) (j := oc_b i)).2.2 x (by omega)
    rw [si_j_v (oc_b i) x hx, si_j_o (oc_b i) (oc_b x) (oc_b i) (by omega)] at a
    by_cases c : x = i
    · rw [c] at a hx ⊢; have := hg (oc_b i) hp; omega
    · have : oc_b x < i := by unfold oc_b at hx ⊢; split at hx <;> split <;> omega
      have := hw (oc_b x) (oc_b i) this hp
      omega
  have vp : 0 ≤ si_v (si_j n i (oc_b i) S) n i (oc_b i) := by rw [si_j_v (2 * n) (oc_b i) hp] at ok; exact ok
  have U1 : ∀ x, x < 2 * n → si_j n i (2 * n) S i x ≤ U := fun x hx => by
    rw [si_j_v (2 * n) x hx]
    have a : si_v (si_j n i x S) n i x ≤ (si_j n i x S i i + si_j n i x S x x) / 2 := by
      have v : si_v (si_j n i x S) n i x ≤ si_b (si_j n i x S) n i x := by unfold si_v; split <;> omega
      have b : si_b (si_j n i x S) n i x ≤ (si_j n i x S i i + si_j n i x S x x) / 2 := by unfold si_b; omega
      omega
    have b := si_j_le (n := n) (i := i) (S := S) x i i
    have c := si_j_le (n := n) (i := i) (S := S) x x x
    have d := hg i hi
    have e := hg x hx
    omega
  refine ⟨fun hu x hx => ?_, U1, ?_⟩
  · have a := T hu x hx
    have b := si_j_le (n := n) (i := i) (S := S) (oc_b i) i x
    omega
  have vrow : ∀ j x : Nat, j < 2 * n → x < j → si_j n i j S i x = si_v (si_j n i x S) n i x := fun j x _ hx => si_j_v j x hx
  -- an odd row's own place
  have vi : i % 2 = 1 → -(2 * V) - 1 ≤ si_v (si_j n i i S) n i i := fun ho => by
    have pi : oc_b i = i - 1 := by unfold oc_b; rw [if_neg (by omega)]
    have old : si_j n i i S i i = S i i := si_j_o i i i (by omega)
    have o2 := S0 i hi
    refine si_v_lo (S := si_j n i i S) (n := n) (i := i) (j := i) (L := -(2 * V)) (by omega) (by omega) (fun x hx => ?_) (by omega)
    have a : -V ≤ si_j n i i S i x := by
      by_cases c : x < i
      · rw [vrow i x hi c]
        by_cases c2 : x < oc_b i
        · have := vb x c2; omega
        · have : x = oc_b i := by omega
          rw [this]; omega
      · rw [si_j_o i i x (by omega)]; exact S0 x hx
    by_cases q : oc_b x = i
    · rw [q, old]
      have : x = oc_b i := by rw [← q, oc_bb]
      omega
    · rw [si_j_o i (oc_b x) i (by omega)]
      by_cases c : i ≤ oc_b x
      · have := hl (oc_b x) i c (oc_bl hx) hi; omega
      · by_cases c2 : oc_b x = oc_b i
        · have := hodd ho; rw [c2]; omega
        · have c3 : oc_b x < oc_b i := by omega
          have e := vb (oc_b x) c3
          have f := (si_v_le (S := si_j n i (oc_b x) S) (n := n) (i := i) (j := oc_b x)).2.1
          rw [si_j_o (oc_b x) (oc_b x) i (by omega)] at f
          omega
  have main : ∀ m x : Nat, x < m → x < 2 * n → -(2 * V + 1 + K + x * (V + 1)) ≤ si_v (si_j n i x S) n i x := by
    intro m
    induction m with
    | zero => intro x h; omega
    | succ m ih =>
      intro x hm hx
      have hP0 : 0 ≤ (x : Int) * (V + 1) := Int.mul_nonneg (by omega) (by omega)
      by_cases c1 : x < oc_b i
      · have := vb x c1; omega
      by_cases c2 : x = oc_b i
      · rw [c2] at hP0 ⊢; omega
      by_cases c3 : x = i
      · have ho : i % 2 = 1 := by
          rw [c3] at c1; unfold oc_b at c1
          by_cases z : i % 2 = 0
          · rw [if_pos z] at c1; omega
          · omega
        have := vi ho
        rw [c3] at hP0 ⊢; omega
      have c4 : i < x ∧ oc_b i < x := by
        refine ⟨?_, by omega⟩
        unfold oc_b at c1 c2
        split at c1 <;> split at c2 <;> omega
      have old : si_j n i x S i x = S i x := si_j_o x i x (by omega)
      have ox := S0 x hx
      have own : -(2 * V) - 1 ≤ si_j n i x S i i := by
        rw [vrow x i hx c4.1]
        by_cases z : i % 2 = 1
        · exact vi z
        · have : i < oc_b i := by unfold oc_b; rw [if_pos (by omega)]; omega
          have := vb i this; omega
      have hxx := hl x x (by omega) hx hx
      -- all but the last step
      have hP : ∀ y, y < x → (y : Int) * (V + 1) + (V + 1) ≤ x * (V + 1) := fun y hy => by
        have : ((y + 1 : Nat) : Int) * (V + 1) ≤ (x : Nat) * (V + 1) := Int.mul_le_mul_of_nonneg_right (by omega) (by omega)
        have e : ((y + 1 : Nat) : Int) * (V + 1) = y * (V + 1) + (V + 1) := by push_cast; rw [Int.add_mul]; omega
        omega
      have hP1 : V + 1 ≤ (x : Int) * (V + 1) := by have := hP 0 (by omega); simp at this; omega
      have low := si_v_lo (S := si_j n i x S) (n := n) (i := i) (j := x) (L := -(2 * V + 1 + K + x * (V + 1)) + 1) (by omega) (by rw [si_j_o x x i (by omega)]; have := hl x i (by omega) hx hi; omega) (fun y hy => by
        by_cases q : oc_b y = i
        · have : y = oc_b i := by rw [← q, oc_bb]
          rw [q, old, this, vrow x _ hx c4.2]; omega
        · rw [si_j_o x (oc_b y) x (by omega)]
          have k := hd (oc_b y) x (oc_bl hy) hx
          by_cases d1 : x ≤ y
          · rw [si_j_o x i y (by omega)]; have := S0 y hy; omega
          · rw [vrow x y hx (by omega)]
            by_cases d2 : y < oc_b i
            · have := vb y d2; omega
            · by_cases d3 : y = i
              · rw [d3] at d2 k ⊢
                have z : i % 2 = 1 := by
                  unfold oc_b at d2
                  by_cases z : i % 2 = 0
                  · rw [if_pos z] at d2; omega
                  · omega
                have := vi z; omega
              · have d4 : y ≠ oc_b i := fun e => q (by rw [e, oc_bb])
                have d5 : i ≤ oc_b y := by
                  unfold oc_b at d2 d4 ⊢
                  split at d2 <;> split at d4 <;> split <;> omega
                have w := hl (oc_b y) x d5 (oc_bl hy) hx
                have u := ih y (by omega) hy
                have t := hP y (by omega)
                omega) (by rw [si_j_o x x x (by omega)]; omega)
      omega
  intro x hx
  rw [si_j_v (2 * n) x hx]
  exact main (x + 1) x (by omega) hx
