set_option maxRecDepth 100000
/-! how many slots are free: as many as there are parts that alone name their slot -/
def nS (f : Nat → Nat) : Nat → Nat
  | 0 => 0
  | i + 1 => nS f i + f i
theorem nS_1 {f : Nat → Nat} {i : Nat} : nS f (i + 1) = nS f i + f i := rfl
theorem nS_add {f g : Nat → Nat} : ∀ n, nS (fun i => f i + g i) n = nS f n + nS g n := by
  intro n
  induction n with
  | zero => rfl
  | succ n ih => rw [nS_1, nS_1, nS_1, ih]; omega
theorem nS_cong {f g : Nat → Nat} : ∀ n, (∀ i, i < n → f i = g i) → nS f n = nS g n := by
  intro n
  induction n with
  | zero => intro _; rfl
  | succ n ih => intro w; rw [nS_1, nS_1, ih (fun i hi => w i (by omega)), w n (by omega)]
theorem n64_nS {b : Nat → Bool} : ∀ n, n64 b n = nS (fun i => if b i = true then 1 else 0) n := by
  intro n
  induction n with
  | zero => rfl
  | succ n ih => rw [nS_1, n64_1, ih]
theorem n64_cong {b c : Nat → Bool} : ∀ n, (∀ i, i < n → b i = c i) → n64 b n = n64 c n := by
  intro n
  induction n with
  | zero => intro _; rfl
  | succ n ih => intro w; rw [n64_1, n64_1, ih (fun i hi => w i (by omega)), w n (by omega)]
theorem n64_none {b : Nat → Bool} : ∀ n, (∀ i, i < n → b i = false) → n64 b n = 0 := by
  intro n
  induction n with
  | zero => intro _; rfl
  | succ n ih => intro w; rw [n64_1, ih (fun i hi => w i (by omega)), w n (by omega)]; rfl
theorem n64_only {b : Nat → Bool} {a : Nat} : ∀ n, a < n → (∀ i, i < n → (b i = true ↔ i = a)) → n64 b n = 1 := by
  intro n
  induction n with
  | zero => intro h _; omega
  | succ n ih =>
    intro h w
    rw [n64_1]
    by_cases c : a = n
    · rw [n64_none n (fun i hi => Bool.eq_false_iff.mpr (fun q => by have := (w i (by omega)).mp q; omega)), if_pos ((w n (by omega)).mpr c.symm)]
    · rw [ih (by omega) (fun i hi => w i (by omega)), if_neg (fun q => c ((w n (by omega)).mp q).symm)]
theorem nS_swap {g : Nat → Nat → Bool} {k : Nat} : ∀ m, nS (fun x => n64 (g x) m) k = nS (fun i => n64 (fun x => g x i) k) m := by
  intro m
  induction m with
  | zero =>
    show nS (fun _ => 0) k = 0
    induction k with
    | zero => rfl
    | succ k ih => rw [nS_1, ih]
  | succ m ih =>
    rw [nS_1, ← ih, n64_nS, ← nS_add]
    exact nS_cong k (fun i _ => n64_1)
theorem n64_sub {b c : Nat → Bool} : ∀ n, (∀ i, i < n → b i = true → c i = true) → n64 b n ≤ n64 c n ∧ (n64 b n = n64 c n ↔ ∀ i, i < n → c i = true → b i = true) := by
  intro n
  induction n with
  | zero => intro _; exact ⟨Nat.le_refl _, fun _ i hi => absurd hi (Nat.not_lt_zero _), fun _ => rfl⟩
  | succ n ih =>
    intro w
    obtain ⟨p, q⟩ := ih (fun i hi => w i (by omega))
    have wn := w n (by omega)
    rw [n64_1, n64_1]
    have key : (∀ i, i < n + 1 → c i = true → b i = true) ↔ (∀ i, i < n → c i = true → b i = true) ∧ (c n = true → b n = true) := by
      constructor
      · intro v; exact ⟨fun i hi => v i (by omega), v n (by omega)⟩
      · rintro ⟨v, v'⟩ i hi
        by_cases e : i = n
        · rw [e]; exact v'
        · exact v i (by omega)
    rw [key, ← q]
    cases hb : b n <;> cases hc : c n
    · simp only [if_neg (show ¬ (false : Bool) = true by decide)]; exact ⟨by omega, ⟨fun h => ⟨by omega, fun h' => h'⟩, fun h => by omega⟩⟩
    · rw [if_neg (show ¬ (false : Bool) = true by decide), if_pos (show (true : Bool) = true from rfl)]
      exact ⟨by omega, ⟨fun h => absurd h (by omega), fun h => absurd (h.2 rfl) (by decide)⟩⟩
    · rw [hb, hc] at wn; exact absurd (wn rfl) (by decide)
    · simp only [if_pos (show (true : Bool) = true from rfl)]; exact ⟨by omega, ⟨fun h => ⟨by omega, fun h' => h'⟩, fun h => by omega⟩⟩
/-- part i alone names its slot -/
def uF (nb : Nat) (u : Nat → Int32) (m i : Nat) : Bool := !decide (u i < 0) && decide (n64 (uC nb u (nb + (u i).toNatClampNeg)) m = 1)
theorem sF_at {nb : Nat} {t u z : Nat → Int32} {x m : Nat} (hz : z x = 0) : sF (sgN nb t u z m x) = decide (n64 (uC nb u x) m = 1) := by
  obtain ⟨a, b, c⟩ := sgN_at (nb := nb) (t := t) (u := u) (z := z) (x := x) hz m
  by_cases c0 : n64 (uC nb u x) m = 0
  · rw [a c0, c0]; decide
  · by_cases c1 : n64 (uC nb u x) m = 1
    · obtain ⟨i, -, -, e⟩ := b c1
      rw [e, c1]
      split <;> decide
    · rw [c (by omega), decide_eq_false c1]; decide
theorem free_count {nb : Nat} {t u z : Nat → Int32} {k m : Nat} (hz : ∀ x, x < k → z x = 0) (hu : ∀ i, i < m → ¬ u i < 0 → nb + (u i).toNatClampNeg < k) : n64 (fun x => sF (sgN nb t u z m x)) k = n64 (uF nb u m) m := by
  have e1 : n64 (fun x => sF (sgN nb t u z m x)) k = nS (fun x => n64 (fun i => uC nb u x i && decide (n64 (uC nb u x) m = 1)) m) k := by
    rw [n64_nS]
    refine nS_cong k (fun x hx => ?_)
    rw [sF_at (hz x hx)]
    by_cases c : n64 (uC nb u x) m = 1
    · rw [if_pos (decide_eq_true c), n64_cong (c := uC nb u x) m (fun i _ => by rw [decide_eq_true c, Bool.and_true]), c]
    · rw [if_neg (by rw [decide_eq_false c]; decide), n64_none m (fun i _ => by rw [decide_eq_false c, Bool.and_false])]
  rw [e1, nS_swap (g := fun x i => uC nb u x i && decide (n64 (uC nb u x) m = 1)), n64_nS]
  refine nS_cong m (fun i hi => ?_)
  by_cases c : u i < 0
  · rw [n64_none k (fun x _ => by unfold uC; rw [decide_eq_true c]; rfl), if_neg (by unfold uF; rw [decide_eq_true c, Bool.not_true, Bool.false_and]; decide)]
  · by_cases c1 : n64 (uC nb u (nb + (u i).toNatClampNeg)) m = 1
    · rw [if_pos (by unfold uF; rw [decide_eq_false c, decide_eq_true c1]; rfl)]
      refine n64_only (a := nb + (u i).toNatClampNeg) k (hu i hi c) (fun x _ => ?_)
      constructor
      · intro w
        have := (Bool.and_eq_true _ _ ▸ w : _ ∧ _).1
        unfold uC at this
        rw [decide_eq_false c, Bool.not_false, Bool.true_and] at this
        exact (of_decide_eq_true this).symm
      · intro w
        rw [w, decide_eq_true c1, Bool.and_true]
        unfold uC
        rw [decide_eq_false c, decide_eq_true rfl]; rfl
    · rw [if_neg (by unfold uF; rw [decide_eq_false c1, Bool.and_false]; decide)]
      refine n64_none k (fun x _ => ?_)
      by_cases cx : nb + (u i).toNatClampNeg = x
      · rw [← cx, decide_eq_false c1, Bool.and_false]
      · unfold uC
        rw [decide_eq_false cx, Bool.and_false, Bool.false_and]
