set_option maxRecDepth 100000
/-! the same in longs: no overflow, and the rounds end -/
theorem x2_neg {a : Int64} : a ^^^ 2 < 0 ↔ a.toInt < 0 := by
  rw [Int64.lt_iff_toInt_lt, show (0 : Int64).toInt = 0 from rfl]
  have e1 : (a ^^^ 2).toBitVec.msb = a.toBitVec.msb := by
    rw [Int64.toBitVec_xor, BitVec.msb_xor, show (2 : Int64).toBitVec.msb = false from rfl, Bool.xor_false]
  have e2 := BitVec.msb_eq_toInt (x := (a ^^^ 2).toBitVec)
  have e3 := BitVec.msb_eq_toInt (x := a.toBitVec)
  rw [e1, e3] at e2
  have e4 := decide_eq_decide.mp e2
  exact e4.symm
theorem tdiv2 {a : Int} : a.tdiv 2 = if a < 0 then -((-a) / 2) else a / 2 := by
  split
  · next h =>
    have : a = -(-a) := by omega
    rw [this, Int.neg_tdiv, Int.tdiv_eq_ediv_of_nonneg (by omega)]
    simp
  · next h => rw [Int.tdiv_eq_ediv_of_nonneg (by omega)]
theorem div2_int {x : Int64} : (x / 2).toInt = x.toInt.tdiv 2 := by
  rw [Int64.toInt_div_of_ne_right]
  · rfl
  · decide
theorem fd2_int {x : Int64} : (fd_v x 2).toInt = x.toInt / 2 := by
  have r1 := Int64.le_toInt x
  have r2 := Int64.toInt_lt x
  have d := div2_int (x := x)
  rw [tdiv2] at d
  unfold fd_v
  have xn := x2_neg (a := x)
  by_cases c : x.toInt < 0
  · rw [if_pos (xn.mpr c)]
    rw [if_pos c] at d
    have m : (x / 2 * 2).toInt = (x / 2).toInt * 2 := by
      rw [Int64.toInt_mul, show (2 : Int64).toInt = 2 from rfl]
      exact Int.bmod_eq_of_le (by omega) (by omega)
    by_cases e : x / 2 * 2 = x
    · rw [if_pos e]
      have : (x / 2 * 2).toInt = x.toInt := by rw [e]
      omega
    · rw [if_neg e]
      have : (x / 2 * 2).toInt ≠ x.toInt := fun z => e (Int64.toInt_inj.mp z)
      have s : (x / 2 - 1).toInt = (x / 2).toInt - 1 := by
        rw [Int64.toInt_sub, show (1 : Int64).toInt = 1 from rfl]
        exact Int.bmod_eq_of_le (by omega) (by omega)
      omega
  · rw [if_neg (fun z => c (xn.mp z)), d, if_neg c]
/-- sums as whole numbers -/
def kS (S : Nat → Int64) : si_S := fun i j => if j < 24 then (S (24 * i + j)).toInt else 0
def kS_b (n : Nat) (B : Int) (T : si_S) : Prop := ∀ a b, a < 2 * n → b < 2 * n → -B ≤ T a b ∧ T a b ≤ B
theorem kS_at {S : Nat → Int64} {i j : Nat} (hj : j < 24) : kS S i j = (S (24 * i + j)).toInt := if_pos hj
theorem st_x_int {S : Nat → Int64} {n i j : Nat} {b : Int64} (hb : kS_b n 1152921504606846976 (kS S)) (hn : n ≤ 12) (hi : i < 2 * n) (hj : j < 2 * n) : ∀ k, k ≤ 2 * n → (st_x S i j k b).toInt = si_x (kS S) i j k b.toInt := by
  intro k
  induction k with
  | zero => intro _; rfl
  | succ k ih =>
    intro hk
    show (lmin (st_x S i j k b) (S (24 * i + k) + S (24 * oc_b k + j))).toInt = min (si_x (kS S) i j k b.toInt) (kS S i k + kS S (oc_b k) j)
    have hk2 := oc_bl (i := k) (n := n) (by omega)
    have b1 := hb i k hi (by omega)
    have b2 := hb (oc_b k) j hk2 hj
    rw [kS_at (by omega)] at b1 b2
    rw [lmin_int, ih (by omega), ladd_int (by omega) (by omega), kS_at (by omega), kS_at (by omega)]
theorem si_x_lo {S : si_S} {i j : Nat} {b L : Int} (hb : L ≤ b) : ∀ k, (∀ x, x < k → L ≤ S i x + S (oc_b x) j) → L ≤ si_x S i j k b := si_x_ge hb
theorem st_v_int {S : Nat → Int64} {n i j : Nat} (hb : kS_b n 1152921504606846976 (kS S)) (hn : n ≤ 12) (hi : i < 2 * n) (hj : j < 2 * n) : (st_v S n i j).toInt = si_v (kS S) n i j := by
  have b1 := hb i j hi hj
  have b2 := hb j i hj hi
  have b3 := hb i i hi hi
  have b4 := hb j j hj hj
  have e : (st_b S n i j).toInt = si_b (kS S) n i j := by
    unfold st_b si_b
    rw [kS_at (by omega)] at b1 b2 b3 b4
    rw [lmin_int, st_x_int hb hn hi hj (2 * n) (Nat.le_refl _), lmin_int, fd2_int, ladd_int (by omega) (by omega), kS_at (by omega), kS_at (by omega), kS_at (by omega), kS_at (by omega)]
  have lo : -2305843009213693952 ≤ si_b (kS S) n i j := by
    have l := si_x_ge (S := kS S) (i := i) (j := j) (b := min (kS S i j) (kS S j i)) (c := -2305843009213693952) (by omega) (2 * n) (fun x hx => by
      have c1 := hb i x hi hx
      have c2 := hb (oc_b x) j (oc_bl hx) hj
      omega)
    unfold si_b
    omega
  have up : si_b (kS S) n i j ≤ 1152921504606846976 := by
    have l := (si_x_le (S := kS S) (i := i) (j := j) (b := min (kS S i j) (kS S j i)) (2 * n)).1
    unfold si_b
    omega
  unfold st_v si_v
  by_cases c : i = j
  · rw [if_pos c, if_pos c, Int64.toInt_mul, show (2 : Int64).toInt = 2 from rfl, fd2_int, e]
    exact Int.bmod_eq_of_le (by omega) (by omega)
  · rw [if_neg c, if_neg c, e]
theorem kS_u {S : Nat → Int64} {n i j : Nat} (hb : kS_b n 1152921504606846976 (kS S)) (hn : n ≤ 12) (hi : i < 2 * n) (hj : j < 2 * n) : kS (st_u S n i j) = si_u (kS S) n i j := by
  funext a b
  unfold si_u
  show (if b < 24 then (st_u S n i j (24 * a + b)).toInt else 0) = _
  unfold st_u
  by_cases c : a = i ∧ b = j
  · rw [if_pos c, if_pos (by omega), if_pos (by omega), st_v_int hb hn hi hj]
  · rw [if_neg c]
    by_cases d : b < 24
    · rw [if_pos d, if_neg (by omega), kS_at d]
    · rw [if_neg d]; unfold kS; rw [if_neg d]
/-- a flag -/
def fl (c : Int32) : Prop := c = 0 ∨ c = 1
theorem st_c_fl {S : Nat → Int64} {n i j : Nat} {c : Int32} (hc : fl c) : fl (st_c S n i j c) ∧ (st_c S n i j c = 0 ↔ c = 0 ∧ ¬ st_v S n i j < S (24 * i + j)) := by
  unfold st_c
  by_cases q : st_v S n i j < S (24 * i + j)
  · rw [if_pos q]
    rcases hc with rfl | rfl
    · exact ⟨Or.inr (by decide), ⟨fun z => absurd z (by decide), fun z => absurd q z.2⟩⟩
    · exact ⟨Or.inr (by decide), ⟨fun z => absurd z (by decide), fun z => absurd q z.2⟩⟩
  · rw [if_neg q]
    rcases hc with rfl | rfl
    · exact ⟨Or.inl (by decide), ⟨fun _ => ⟨rfl, q⟩, fun _ => by decide⟩⟩
    · exact ⟨Or.inr (by decide), ⟨fun z => absurd z (by decide), fun z => absurd z.1 (by decide)⟩⟩
/-- a row in longs is the row in whole numbers -/
theorem st_row {n i : Nat} {x : (Nat → Int64) × Int32} {V M : Int} (hn : n ≤ 12) (hi : i < 2 * n) (hV : 0 ≤ V) (hM : V ≤ M) (hM2 : M ≤ 36028797018963968) (hr : ∀ y, y < 2 * n → -V ≤ kS x.1 i y) (ho : ∀ y z, y < 2 * n → z < 2 * n → -M ≤ kS x.1 y z) (hu : ∀ y z, y < 2 * n → z < 2 * n → kS x.1 y z ≤ 1152921504606846976) (hf : fl x.2) : ∀ k, k ≤ 2 * n → kS (st_j n i k x).1 = si_j n i k (kS x.1) ∧ fl (st_j n i k x).2 ∧ ((st_j n i k x).2 = 0 ↔ x.2 = 0 ∧ ∀ b, b < k → kS x.1 i b ≤ si_v (si_j n i b (kS x.1)) n i b) ∧ ∀ q, ¬ (q / 24 = i ∧ q % 24 < k) → (st_j n i k x).1 q = x.1 q := by
  intro k
  induction k with
  | zero => intro _; exact ⟨rfl, hf, ⟨fun z => ⟨z, fun b hb => absurd hb (Nat.not_lt_zero b)⟩, fun z => z.1⟩, fun q _ => rfl⟩
  | succ k ih =>
    intro hk
    obtain ⟨e, f, g, o⟩ := ih (by omega)
    have hb : kS_b n 1152921504606846976 (kS (st_j n i k x).1) := by
      rw [e]
      intro a b ha hb
      have up := si_j_le (n := n) (i := i) (S := kS x.1) k a b
      have u := hu a b ha hb
      refine ⟨?_, by omega⟩
      by_cases c : a = i
      · subst c
        have l := si_j_low hi hV hM hr ho k (by omega) b hb
        have : (k : Int) * (M + 1) ≤ 24 * (M + 1) := Int.mul_le_mul_of_nonneg_right (by omega) (by omega)
        omega
      · rw [si_j_o k a b (by omega)]; have := ho a b ha hb; omega
    have c := st_c_fl (S := (st_j n i k x).1) (n := n) (i := i) (j := k) f
    refine ⟨?_, c.1, ?_, ?_⟩
    · show kS (st_u (st_j n i k x).1 n i k) = si_u (si_j n i k (kS x.1)) n i k
      rw [kS_u hb hn hi (by omega), e]
    · show st_c (st_j n i k x).1 n i k (st_j n i k x).2 = 0 ↔ _
      rw [c.2, g]
      have v : (st_v (st_j n i k x).1 n i k < (st_j n i k x).1 (24 * i + k)) ↔ si_v (si_j n i k (kS x.1)) n i k < kS x.1 i k := by
        rw [Int64.lt_iff_toInt_lt, st_v_int hb hn hi (by omega), e, o (24 * i + k) (by omega), kS_at (by omega)]
      rw [v]
      refine ⟨fun z => ⟨z.1.1, fun b hb => ?_⟩, fun z => ⟨⟨z.1, fun b hb => z.2 b (by omega)⟩, ?_⟩⟩
      · by_cases c : b = k
        · subst c; exact Int.not_lt.mp z.2
        · exact z.1.2 b (by omega)
      · exact Int.not_lt.mpr (z.2 k (by omega))
    · intro q hq
      show st_u (st_j n i k x).1 n i k q = _
      unfold st_u
      rw [if_neg (by omega), o q (by omega)]
theorem si_j_same {n i : Nat} {S : si_S} : ∀ k, (∀ b, b < k → S i b ≤ si_v (si_j n i b S) n i b) → si_j n i k S = S := by
  intro k
  induction k with
  | zero => intro _; rfl
  | succ k ih =>
    intro h
    have e := ih (fun b hb => h b (by omega))
    have v := h k (by omega)
    show si_u (si_j n i k S) n i k = S
    rw [e] at v ⊢
    have w := (si_v_le (S := S) (n := n) (i := i) (j := k)).1
    funext a b
    unfold si_u
    split
    · next c => obtain ⟨rfl, rfl⟩ := c; omega
    · rfl
/-- a round, up to row k: what falls, what stays -/
abbrev st_P (n : Nat) (V : Int) (S : Nat → Int64) (k : Nat) (r : (Nat → Int64) × Int32) : Prop := ((∀ a b, a < 2 * n → b < 2 * n → kS S a b ≤ 17179869184) → ∀ a b, a < k → b < 2 * n → -17179869184 ≤ kS S a b) ∧ (∀ a b, a < k → b < 2 * n → kS r.1 a b ≤ 17179869184) ∧ (∀ a b, k ≤ a → kS r.1 a b = kS S a b) ∧ (∀ a b, a < 2 * n → b < 2 * n → -(V + k * (26 * V + 25)) ≤ kS r.1 a b) ∧ (∀ a, a < k → 0 ≤ kS r.1 a (oc_b a)) ∧ (fl r.2) ∧ (r.2 = 0 → kS r.1 = kS S ∧ ∀ a b, a < k → b < 2 * n → kS S a b ≤ si_v (kS S) n a b) ∧ (¬ r.2 = 0 → ∃ a b, a < 2 * n ∧ b < 2 * n ∧ kS r.1 a b < kS S a b)
theorem st_P.row {n : Nat} {V : Int} {S : Nat → Int64} {k : Nat} {r : (Nat → Int64) × Int32} (q : st_P n V S k r) : (∀ a b, a < 2 * n → b < 2 * n → kS S a b ≤ 17179869184) → ∀ a b, a < k → b < 2 * n → -17179869184 ≤ kS S a b := q.1
theorem st_P.up {n : Nat} {V : Int} {S : Nat → Int64} {k : Nat} {r : (Nat → Int64) × Int32} (q : st_P n V S k r) : ∀ a b, a < k → b < 2 * n → kS r.1 a b ≤ 17179869184 := q.2.1
theorem st_P.old {n : Nat} {V : Int} {S : Nat → Int64} {k : Nat} {r : (Nat → Int64) × Int32} (q : st_P n V S k r) : ∀ a b, k ≤ a → kS r.1 a b = kS S a b := q.2.2.1
theorem st_P.lo {n : Nat} {V : Int} {S : Nat → Int64} {k : Nat} {r : (Nat → Int64) × Int32} (q : st_P n V S k r) : ∀ a b, a < 2 * n → b < 2 * n → -(V + k * (26 * V + 25)) ≤ kS r.1 a b := q.2.2.2.1
theorem st_P.ok {n : Nat} {V : Int} {S : Nat → Int64} {k : Nat} {r : (Nat → Int64) × Int32} (q : st_P n V S k r) : ∀ a, a < k → 0 ≤ kS r.1 a (oc_b a) := q.2.2.2.2.1
theorem st_P.f {n : Nat} {V : Int} {S : Nat → Int64} {k : Nat} {r : (Nat → Int64) × Int32} (q : st_P n V S k r) : fl r.2 := q.2.2.2.2.2.1
theorem st_P.same {n : Nat} {V : Int} {S : Nat → Int64} {k : Nat} {r : (Nat → Int64) × Int32} (q : st_P n V S k r) : r.2 = 0 → kS r.1 = kS S ∧ ∀ a b, a < k → b < 2 * n → kS S a b ≤ si_v (kS S) n a b := q.2.2.2.2.2.2.1
theorem st_P.less {n : Nat} {V : Int} {S : Nat → Int64} {k : Nat} {r : (Nat → Int64) × Int32} (q : st_P n V S k r) : ¬ r.2 = 0 → ∃ a b, a < 2 * n ∧ b < 2 * n ∧ kS r.1 a b < kS S a b := q.2.2.2.2.2.2.2
theorem oc_b_p {i : Nat} (h : i % 2 = 1) : oc_b i = i - 1 := by unfold oc_b; rw [if_neg (by omega)]
theorem st_pass {n : Nat} {V : Int} {S : Nat → Int64} (hn : n ≤ 12) (hV : 17179869184 ≤ V) (hV2 : V ≤ 35184372088832) (hu : ∀ a b, a < 2 * n → b < 2 * n → kS S a b ≤ 1152921504606846976) (hg : ∀ a, a < 2 * n → kS S a a ≤ 17179869184) (hl : ∀ a b, a < 2 * n → b < 2 * n → -V ≤ kS S a b) : ∀ k, k ≤ 2 * n → (∀ a b, kS (st_i n k (S, 0)).2.1 a b ≤ kS S a b) ∧ (∀ A, si_T n A → (∀ a b, a < 2 * n → b < 2 * n → A a b ≤ kS S a b) → ∀ a b, a < 2 * n → b < 2 * n → A a b ≤ kS (st_i n k (S, 0)).2.1 a b) ∧ (∀ q, ¬ (q / 24 < 2 * n ∧ q % 24 < 2 * n) → (st_i n k (S, 0)).2.1 q = S q) ∧ ((st_i n k (S, 0)).1 = true → ∃ i, i < 2 * n ∧ kS (st_i n k (S, 0)).2.1 i (oc_b i) < 0) ∧ ((st_i n k (S, 0)).1 = false → st_P n V S k (st_i n k (S, 0)).2) := by
  intro k
  induction k with
  | zero =>
    intro _
    refine ⟨fun a b => Int.le_refl _, fun A _ h => h, fun q _ => rfl, fun z => absurd z (by simp [st_i]), fun _ => ⟨fun _ a b h => by omega, fun a b h => by omega, fun a b _ => rfl, fun a b ha hb => ?_, fun a h => by omega, Or.inl rfl, fun _ => ⟨rfl, fun a b h => by omega⟩, fun z => absurd rfl z⟩⟩
    have := hl a b ha hb
    show _ ≤ kS S a b
    simp; omega
  | succ k ih =>
    intro hk
    obtain ⟨i1, i2, i3, i4, i5⟩ := ih (by omega)
    have hk2 : k < 2 * n := by omega
    have E : st_i n (k + 1) (S, 0) = (match st_i n k (S, 0) with
      | (true, y) => (true, y)
      | (false, y) => (decide ((st_j n k (2 * n) y).1 (24 * k + oc_b k) < 0), st_j n k (2 * n) y)) := rfl
    generalize st_i n k (S, 0) = z at E i1 i2 i3 i4 i5
    obtain ⟨b, y⟩ := z
    cases b with
    | true =>
      rw [E]
      exact ⟨i1, i2, i3, i4, fun z => absurd z (by simp)⟩
    | false =>
      have P : st_P n V S k y := i5 rfl
      have hy : ∀ a b, kS y.1 a b ≤ kS S a b := i1
      generalize hKK : (k : Int) * (26 * V + 25) = KK at *
      have hKK0 : 0 ≤ KK := by rw [← hKK]; exact Int.mul_nonneg (by omega) (by omega)
      have hKK1 : KK ≤ 24 * (26 * V + 25) := by rw [← hKK]; exact Int.mul_le_mul_of_nonneg_right (by omega) (by omega)
      have hKn : ((k + 1 : Nat) : Int) * (26 * V + 25) = KK + (26 * V + 25) := by rw [← hKK]; push_cast; rw [Int.add_mul]; omega
      have lo : ∀ a b, a < 2 * n → b < 2 * n → -(V + KK) ≤ kS y.1 a b := by have := P.lo; rw [hKK] at this; exact this
      have rowV : ∀ c x, k ≤ c → c < 2 * n → x < 2 * n → -V ≤ kS y.1 c x := fun c x h1 h2 h3 => by rw [P.old c x h1]; exact hl c x h2 h3
      have up : ∀ a b, a < 2 * n → b < 2 * n → kS y.1 a b ≤ 1152921504606846976 := fun a b ha hb => by have := hy a b; have := hu a b ha hb; omega
      have R := st_row (n := n) (i := k) (x := y) (V := V) (M := V + KK) hn hk2 (by omega) (by omega) (by omega) (fun x hx => rowV k x (Nat.le_refl _) hk2 hx) lo up P.f (2 * n) (Nat.le_refl _)
      obtain ⟨e, f, g, o⟩ := R
      have hb := oc_bl hk2
      have ck : ((st_j n k (2 * n) y).1 (24 * k + oc_b k) < 0) ↔ si_j n k (2 * n) (kS y.1) k (oc_b k) < 0 := by
        rw [← e, kS_at (by omega), Int64.lt_iff_toInt_lt]; rfl
      rw [E]
      refine ⟨fun a b => ?_, fun A hT hA a b ha hb => ?_, fun q hq => ?_, fun z => ?_, fun z => ?_⟩
      · show kS (st_j n k (2 * n) y).1 a b ≤ _
        rw [e]
        have := si_j_le (n := n) (i := k) (S := kS y.1) (2 * n) a b
        have := hy a b; omega
      · show A a b ≤ kS (st_j n k (2 * n) y).1 a b
        rw [e]
        exact si_j_ge hT (i2 A hT hA) hk2 (2 * n) (Nat.le_refl _) a b ha hb
      · show (st_j n k (2 * n) y).1 q = _
        rw [o q (by omega)]; exact i3 q hq
      · have z' := of_decide_eq_true z
        refine ⟨k, hk2, ?_⟩
        show kS (st_j n k (2 * n) y).1 k (oc_b k) < 0
        rw [e]; exact ck.mp z'
      · have z' := of_decide_eq_false z
        have okk : 0 ≤ si_j n k (2 * n) (kS y.1) k (oc_b k) := Int.not_lt.mp (fun w => z' (ck.mpr w))
        obtain ⟨s0, su, s1⟩ := si_row (n := n) (i := k) (S := kS y.1) (U := 17179869184) (V := V) (K := V + KK) hk2 (by omega) hV (by omega) (by omega) (fun a ha => by have := hy a a; have := hg a ha; omega) P.up lo rowV (fun ho => by have := P.ok (oc_b k) (by rw [oc_b_p ho]; omega); rw [oc_bb] at this; exact this) okk
        show st_P n V S (k + 1) (st_j n k (2 * n) y)
        refine ⟨fun hU a b ha hb' => ?_, fun a b ha hb' => ?_, fun a b ha => ?_, fun a b ha hb' => ?_, fun a ha => ?_, f, fun w => ?_, fun w => ?_⟩
        · by_cases c : a = k
          · subst c; have := s0 (fun a b ha hb => by have := hy a b; have := hU a b ha hb; omega) b hb'; rw [P.old a b (Nat.le_refl _)] at this; exact this
          · exact P.row hU a b (by omega) hb'
        · rw [e]
          by_cases c : a = k
          · subst c; exact su b hb'
          · rw [si_j_o _ _ _ (by omega)]; exact P.up a b (by omega) hb'
        · rw [e, si_j_o _ _ _ (by omega)]; exact P.old a b (by omega)
        · rw [e, hKn]
          by_cases c : a = k
          · subst c
            have := s1 b hb'
            have : (b : Int) * (V + 1) ≤ 23 * (V + 1) := Int.mul_le_mul_of_nonneg_right (by omega) (by omega)
            omega
          · rw [si_j_o _ _ _ (by omega)]; have := lo a b ha hb'; omega
        · by_cases c : a = k
          · subst c; rw [e]; exact okk
          · rw [e, si_j_o _ _ _ (by omega)]; exact P.ok a (by omega)
        · obtain ⟨w1, w2⟩ := g.mp w
          obtain ⟨p1, p2⟩ := P.same w1
          have q := si_j_same (n := n) (i := k) (S := kS y.1) (2 * n) w2
          refine ⟨by rw [e, q, p1], fun a b ha hb' => ?_⟩
          by_cases c : a = k
          · subst c
            have w3 := w2 b hb'
            rw [si_j_same (n := n) (i := a) (S := kS y.1) b (fun x hx => w2 x (by omega)), p1] at w3
            exact w3
          · exact p2 a b (by omega) hb'
        · by_cases c : y.2 = 0
          · have : ¬ ∀ b, b < 2 * n → kS y.1 k b ≤ si_v (si_j n k b (kS y.1)) n k b := fun u => w (g.mpr ⟨c, u⟩)
            obtain ⟨b, hb'⟩ := Classical.not_forall.mp this
            have hb1 := Classical.not_imp.mp hb'
            refine ⟨k, b, hk2, hb1.1, ?_⟩
            have h3 := Int.not_le.mp hb1.2
            have h4 := hy k b
            have h5 : kS (st_j n k (2 * n) y).1 k b = si_v (si_j n k b (kS y.1)) n k b := by rw [e, si_j_v _ b hb1.1]
            omega
          · obtain ⟨a, b, ha, hb', hl'⟩ := P.less c
            refine ⟨a, b, ha, hb', ?_⟩
            rw [e]
            have := si_j_le (n := n) (i := k) (S := kS y.1) (2 * n) a b
            omega
/-! sums of rows, for the end of the rounds -/
def su (f : Nat → Int) : Nat → Int
  | 0 => 0
  | k + 1 => su f k + f k
theorem su_le {f g : Nat → Int} : ∀ k, (∀ x, x < k → f x ≤ g x) → su f k ≤ su g k := by
  intro k
  induction k with
  | zero => intro _; exact Int.le_refl _
  | succ k ih => intro h; have a := ih (fun x hx => h x (by omega)); have b := h k (by omega); show su f k + f k ≤ su g k + g k; omega
theorem su_lt {f g : Nat → Int} {y : Nat} : ∀ k, (∀ x, x < k → f x ≤ g x) → y < k → f y < g y → su f k < su g k := by
  intro k
  induction k with
  | zero => intro _ h; omega
  | succ k ih =>
    intro h hy hl
    show su f k + f k < su g k + g k
    by_cases c : y = k
    · subst c; have := su_le y (fun x hx => h x (by omega)); omega
    · have a := ih (fun x hx => h x (by omega)) (by omega) hl; have b := h k (by omega); omega
def su2 (n : Nat) (S : si_S) : Int := su (fun i => su (S i) (2 * n)) (2 * n)
theorem su2_le {n : Nat} {S T : si_S} (h : ∀ a b, a < 2 * n → b < 2 * n → S a b ≤ T a b) : su2 n S ≤ su2 n T := su_le _ (fun a ha => su_le _ (fun b hb => h a b ha hb))
theorem su2_lt {n a b : Nat} {S T : si_S} (h : ∀ a b, a < 2 * n → b < 2 * n → S a b ≤ T a b) (ha : a < 2 * n) (hb : b < 2 * n) (hl : S a b < T a b) : su2 n S < su2 n T := su_lt _ (fun x hx => su_le _ (fun b hb => h x b hx hb)) ha (su_lt _ (fun y hy => h a y ha hy) hb hl)
/-- Known.settle: it ends, with the greatest tightly closed one below, or with nothing where there is none -/
def st_ok (n : Nat) (S : Nat → Int64) (r : Bool × (Nat → Int64)) : Prop := (∀ a b, kS r.2 a b ≤ kS S a b) ∧ (∀ A, si_T n A → (∀ a b, a < 2 * n → b < 2 * n → A a b ≤ kS S a b) → r.1 = false ∧ ∀ a b, a < 2 * n → b < 2 * n → A a b ≤ kS r.2 a b) ∧ (∀ q, ¬ (q / 24 < 2 * n ∧ q % 24 < 2 * n) → r.2 q = S q) ∧ (r.1 = false → si_T n (kS r.2))
theorem st_ends {n : Nat} (hn : n ≤ 12) : ∀ (t : Nat) (S : Nat → Int64), (∀ a b, a < 2 * n → b < 2 * n → kS S a b ≤ 17179869184) → (∀ a b, a < 2 * n → b < 2 * n → -35184372088832 ≤ kS S a b) → (∀ a, a < 2 * n → kS S a (oc_b a) ≤ 0) → su2 n (kS S) - su2 n (fun _ _ => -17179869184) < t → ∃ f r, st_run n f S = some r ∧ st_ok n S r := by
  intro t
  induction t with
  | zero =>
    intro S hu hl hz ht
    obtain ⟨p1, p2, p3, p4, p5⟩ := st_pass (V := 35184372088832) hn (by omega) (by omega) (fun a b ha hb => by have := hu a b ha hb; omega) (fun a ha => hu a a ha ha) hl (2 * n) (Nat.le_refl _)
    by_cases c : (st_i n (2 * n) (S, 0)).1 = true
    · refine ⟨1, _, if_pos c, p1, fun A hT hA => ?_, p3, fun z => absurd z (by simp)⟩
      obtain ⟨i, hi, hneg⟩ := p4 c
      have a := p2 A hT hA i (oc_b i) hi (oc_bl hi)
      have b := hT.1 i hi
      omega
    · have P := p5 (by simpa using c)
      have := su2_le (n := n) (S := fun _ _ => -17179869184) (T := kS S) (fun a b ha hb => P.row hu a b ha hb)
      omega
  | succ t ih =>
    intro S hu hl hz ht
    obtain ⟨p1, p2, p3, p4, p5⟩ := st_pass (V := 35184372088832) hn (by omega) (by omega) (fun a b ha hb => by have := hu a b ha hb; omega) (fun a ha => hu a a ha ha) hl (2 * n) (Nat.le_refl _)
    by_cases c : (st_i n (2 * n) (S, 0)).1 = true
    · refine ⟨1, _, if_pos c, p1, fun A hT hA => ?_, p3, fun z => absurd z (by simp)⟩
      obtain ⟨i, hi, hneg⟩ := p4 c
      have a := p2 A hT hA i (oc_b i) hi (oc_bl hi)
      have b := hT.1 i hi
      omega
    · have P := p5 (by simpa using c)
      by_cases c2 : (st_i n (2 * n) (S, 0)).2.2 = 0
      · obtain ⟨s1, s2⟩ := P.same c2
        refine ⟨1, (false, (st_i n (2 * n) (S, 0)).2.1), ?_, p1, fun A hT hA => ⟨rfl, p2 A hT hA⟩, p3, fun _ => ?_⟩
        · show (if _ then _ else _) = _
          rw [if_neg c, if_pos c2]
        · show si_T n (kS (st_i n (2 * n) (S, 0)).2.1)
          rw [s1]
          refine si_fix (fun i hi => ?_) (fun i j hi hj => s2 i j hi hj)
          have a := P.ok i hi
          rw [s1] at a
          have b := hz i hi
          omega
      · obtain ⟨P1, -⟩ := st_pass (V := 17179869184) hn (by omega) (by omega) (fun a b ha hb => by have := hu a b ha hb; omega) (fun a ha => hu a a ha ha) (fun a b ha hb => P.row hu a b ha hb) (2 * n) (Nat.le_refl _) |>.2.2.2.2 (by simpa using c) |> fun q => And.intro q.lo trivial
        obtain ⟨a, b, ha, hb, hlt⟩ := P.less c2
        have dec := su2_lt (n := n) (S := kS (st_i n (2 * n) (S, 0)).2.1) (T := kS S) (fun a b _ _ => p1 a b) ha hb hlt
        have hn24 : ((2 * n : Nat) : Int) ≤ 24 := by omega
        obtain ⟨f, r, e, q1, q2, q3, q4⟩ := ih (st_i n (2 * n) (S, 0)).2.1 (fun a b ha hb => by have := p1 a b; have := hu a b ha hb; omega) (fun a b ha hb => by have := P1 a b ha hb; omega) (fun a ha => by have := p1 a (oc_b a); have := hz a ha; omega) (by omega)
        refine ⟨f + 1, r, ?_, fun a b => ?_, fun A hT hA => ?_, fun q hq => ?_, q4⟩
        · show (if _ then _ else _) = _
          rw [if_neg c, if_neg c2]; exact e
        · have := q1 a b; have := p1 a b; omega
        · exact q2 A hT (p2 A hT hA)
        · rw [q3 q hq]; exact p3 q hq
theorem st_ends' {n : Nat} (hn : n ≤ 12) (S : Nat → Int64) (hu : ∀ a b, a < 2 * n → b < 2 * n → kS S a b ≤ 17179869184) (hl : ∀ a b, a < 2 * n → b < 2 * n → -35184372088832 ≤ kS S a b) (hz : ∀ a, a < 2 * n → kS S a (oc_b a) ≤ 0) : ∃ f r, st_run n f S = some r ∧ st_ok n S r := st_ends hn (su2 n (kS S) - su2 n (fun _ _ => -17179869184) + 1).toNat S hu hl hz (by omega)
/-- also where bounds between two numbers are far, those of one number near -/
theorem st_ends2 {n : Nat} (hn : n ≤ 12) (S : Nat → Int64) (hu : ∀ a b, a < 2 * n → b < 2 * n → kS S a b ≤ 1152921504606846976) (hg : ∀ a, a < 2 * n → kS S a a ≤ 17179869184) (hl : ∀ a b, a < 2 * n → b < 2 * n → -34359738368 ≤ kS S a b) (hz : ∀ a, a < 2 * n → kS S a (oc_b a) ≤ 0) : ∃ f r, st_run n f S = some r ∧ st_ok n S r := by
  obtain ⟨p1, p2, p3, p4, p5⟩ := st_pass (V := 34359738368) hn (by omega) (by omega) hu hg hl (2 * n) (Nat.le_refl _)
  by_cases c : (st_i n (2 * n) (S, 0)).1 = true
  · refine ⟨1, _, if_pos c, p1, fun A hT hA => ?_, p3, fun z => absurd z (by simp)⟩
    obtain ⟨i, hi, hneg⟩ := p4 c
    have a := p2 A hT hA i (oc_b i) hi (oc_bl hi)
    have b := hT.1 i hi
    omega
  · have P := p5 (by simpa using c)
    by_cases c2 : (st_i n (2 * n) (S, 0)).2.2 = 0
    · obtain ⟨s1, s2⟩ := P.same c2
      refine ⟨1, (false, (st_i n (2 * n) (S, 0)).2.1), ?_, p1, fun A hT hA => ⟨rfl, p2 A hT hA⟩, p3, fun _ => ?_⟩
      · show (if _ then _ else _) = _
        rw [if_neg c, if_pos c2]
      · show si_T n (kS (st_i n (2 * n) (S, 0)).2.1)
        rw [s1]
        refine si_fix (fun i hi => ?_) (fun i j hi hj => s2 i j hi hj)
        have a := P.ok i hi
        rw [s1] at a
        have b := hz i hi
        omega
    · have P1 := P.lo
      have hn24 : ((2 * n : Nat) : Int) ≤ 24 := by omega
      obtain ⟨f, r, e, q1, q2, q3, q4⟩ := st_ends' hn (st_i n (2 * n) (S, 0)).2.1 (fun a b ha hb => P.up a b ha hb) (fun a b ha hb => by have := P1 a b ha hb; omega) (fun a ha => by have := p1 a (oc_b a); have := hz a ha; omega)
      refine ⟨f + 1, r, ?_, fun a b => ?_, fun A hT hA => ?_, fun q hq => ?_, q4⟩
      · show (if _ then _ else _) = _
        rw [if_neg c, if_neg c2]; exact e
      · have := q1 a b; have := p1 a b; omega
      · exact q2 A hT (p2 A hT hA)
      · rw [q3 q hq]; exact p3 q hq
