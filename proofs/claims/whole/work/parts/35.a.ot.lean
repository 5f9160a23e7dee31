set_option maxRecDepth 100000
/-! sums of ints, counts: what is wanted for both -/
theorem sI_1 {f : Nat → Int} {i : Nat} : sI f (i + 1) = sI f i + f i := rfl
theorem sI_cong {f g : Nat → Int} : ∀ n, (∀ i, i < n → f i = g i) → sI f n = sI g n := by
  intro n
  induction n with
  | zero => intro _; rfl
  | succ n ih => intro w; rw [sI_1, sI_1, ih (fun i hi => w i (by omega)), w n (by omega)]
theorem sI_add {f g : Nat → Int} : ∀ n, sI (fun i => f i + g i) n = sI f n + sI g n := by
  intro n
  induction n with
  | zero => rfl
  | succ n ih => rw [sI_1, sI_1, sI_1, ih]; omega
theorem sI_sub {f g : Nat → Int} : ∀ n, sI (fun i => f i - g i) n = sI f n - sI g n := by
  intro n
  induction n with
  | zero => rfl
  | succ n ih => rw [sI_1, sI_1, sI_1, ih]; omega
theorem sI_zero : ∀ n, sI (fun _ => 0) n = 0 := by
  intro n
  induction n with
  | zero => rfl
  | succ n ih => rw [sI_1, ih]; rfl
theorem sI_swap {g : Nat → Nat → Int} {k : Nat} : ∀ m, sI (fun x => sI (g x) m) k = sI (fun i => sI (fun x => g x i) k) m := by
  intro m
  induction m with
  | zero => exact sI_zero k
  | succ m ih =>
    rw [sI_1, ← ih, ← sI_add]
    exact sI_cong k (fun i _ => sI_1)
theorem n64_sI {b : Nat → Bool} : ∀ n, ((n64 b n : Nat) : Int) = sI (fun i => if b i = true then 1 else 0) n := by
  intro n
  induction n with
  | zero => rfl
  | succ n ih =>
    rw [sI_1, n64_1, ← ih]
    split <;> omega
/-- a sum with one term -/
theorem sI_only {f : Nat → Int} {a : Nat} : ∀ n, a < n → (∀ i, i < n → i ≠ a → f i = 0) → sI f n = f a := by
  intro n
  induction n with
  | zero => intro h _; omega
  | succ n ih =>
    intro h w
    rw [sI_1]
    by_cases c : a = n
    · rw [sI_cong n (g := fun _ => 0) (fun i hi => w i (by omega) (by omega)), sI_zero, c]; omega
    · rw [ih (by omega) (fun i hi => w i (by omega)), w n (by omega) (fun z => c z.symm)]; omega
theorem n64_del {b : Nat → Bool} {a : Nat} (ha : b a = true) : ∀ n, a < n → n64 b n = n64 (fun k => b k && !decide (k = a)) n + 1 := by
  intro n
  induction n with
  | zero => intro h; omega
  | succ n ih =>
    intro h
    rw [n64_1, n64_1]
    by_cases c : a = n
    · subst c
      rw [ha, if_pos rfl, n64_cong (c := fun k => b k && !decide (k = a)) a (fun i hi => by rw [decide_eq_false (by omega), Bool.not_false, Bool.and_true]), decide_eq_true rfl]
      simp
    · rw [ih (by omega), decide_eq_false (fun z => c z.symm), Bool.not_false, Bool.and_true]
      omega
theorem n64_2 {b : Nat → Bool} {n : Nat} (h : n64 b n = 2) : ∃ i j, i < j ∧ j < n ∧ b i = true ∧ b j = true := by
  have one : ∀ (c : Nat → Bool), 1 ≤ n64 c n → ∃ i, i < n ∧ c i = true := by
    intro c hc
    refine Classical.byContradiction (fun w => ?_)
    rw [n64_none n (fun i hi => Bool.eq_false_iff.mpr (fun q => w ⟨i, hi, q⟩))] at hc
    omega
  obtain ⟨i, hi, bi⟩ := one b (by omega)
  have d := n64_del bi n hi
  obtain ⟨j, hj, bj⟩ := one (fun k => b k && !decide (k = i)) (by omega)
  have bj1 : b j = true := (Bool.and_eq_true _ _ ▸ bj : _ ∧ _).1
  have bj2 : ¬ j = i := by
    have := (Bool.and_eq_true _ _ ▸ bj : _ ∧ _).2
    intro z
    rw [decide_eq_true z] at this
    exact absurd this (by decide)
  by_cases c : i < j
  · exact ⟨i, j, c, hj, bi, bj1⟩
  · exact ⟨j, i, by omega, hi, bj1, bi⟩
theorem n64_2u {b : Nat → Bool} {n i j k : Nat} (h : n64 b n = 2) (hij : i ≠ j) (hi : i < n) (hj : j < n) (hk : k < n) (bi : b i = true) (bj : b j = true) (bk : b k = true) : k = i ∨ k = j := by
  refine Classical.byContradiction (fun w => ?_)
  have d1 := n64_del bi n hi
  have d2 := n64_del (b := fun k => b k && !decide (k = i)) (a := j) (by rw [bj, decide_eq_false (fun z => hij z.symm)]; rfl) n hj
  have d3 := n64_del (b := fun k => (b k && !decide (k = i)) && !decide (k = j)) (a := k) (by rw [bk, decide_eq_false (fun z => w (Or.inl z)), decide_eq_false (fun z => w (Or.inr z))]; rfl) n hk
  omega
/-! parts by their number -/
def pq (ps : List pa) (i : Nat) : pa := ps.getD i (false, -2, 0, 0)
def pqS (ps : List pa) (i : Nat) : Int := (pq ps i).2.1
def pqL (ps : List pa) (i : Nat) : Int := if (pq ps i).1 = true then -(pq ps i).2.2.2 else (pq ps i).2.2.1
def pqH (ps : List pa) (i : Nat) : Int := if (pq ps i).1 = true then -(pq ps i).2.2.1 else (pq ps i).2.2.2
def pqN (ps : List pa) (i : Nat) : Bool := decide (pqS ps i = -1)
def pqU (ps : List pa) (i : Nat) : Nat := if (pq ps i).1 = true then 2 * (pqS ps i).toNat + 1 else 2 * (pqS ps i).toNat
/-- how many parts are that slot -/
def pqK (ps : List pa) (x : Int) (i : Nat) : Bool := decide (pqS ps i = x)
def pqF (ps : List pa) (i : Nat) : Bool := decide (0 ≤ pqS ps i ∧ n64 (pqK ps (pqS ps i)) ps.length = 1)
def pqC (ps : List pa) (sk : Nat → Bool) (i : Nat) : Bool := !sk i && !pqN ps i
/-- two are left, both free -/
def pq2 (ps : List pa) (sk : Nat → Bool) : Prop := n64 (pqC ps sk) ps.length = 2 ∧ ∀ i, i < ps.length → pqC ps sk i = true → pqF ps i = true
def pqX (ps : List pa) : Int := sI (fun i => if pqN ps i = true then pqL ps i else 0) ps.length
/-- low and high of the parts that are not skipped -/
def OT (gr : Nat → Nat → Int) (ps : List pa) (sk : Nat → Bool) (a b : Int) : Prop :=
  (pq2 ps sk → ∀ i j, i < j → j < ps.length → pqC ps sk i = true → pqC ps sk j = true → a = pqX ps - gr (oc_b (pqU ps i)) (oc_b (pqU ps j)) ∧ b = pqX ps + gr (pqU ps i) (pqU ps j)) ∧
  (¬ pq2 ps sk → a = sI (fun i => if sk i = true then 0 else pqL ps i) ps.length ∧ b = sI (fun i => if sk i = true then 0 else pqH ps i) ps.length)
theorem OT_u {gr : Nat → Nat → Int} {ps : List pa} {sk : Nat → Bool} {a b a' b' : Int} (h : OT gr ps sk a b) (h' : OT gr ps sk a' b') : a = a' ∧ b = b' := by
  by_cases c : pq2 ps sk
  · obtain ⟨i, j, ij, hj, ci, cj⟩ := n64_2 c.1
    obtain ⟨e1, e2⟩ := h.1 c i j ij hj ci cj
    obtain ⟨f1, f2⟩ := h'.1 c i j ij hj ci cj
    exact ⟨e1.trans f1.symm, e2.trans f2.symm⟩
  · obtain ⟨e1, e2⟩ := h.2 c
    obtain ⟨f1, f2⟩ := h'.2 c
    exact ⟨e1.trans f1.symm, e2.trans f2.symm⟩
theorem OT_sk {gr : Nat → Nat → Int} {ps : List pa} {sk sk' : Nat → Bool} {a b : Int} (e : ∀ i, i < ps.length → sk i = sk' i) (h : OT gr ps sk a b) : OT gr ps sk' a b := by
  have ec : ∀ i, i < ps.length → pqC ps sk i = pqC ps sk' i := fun i hi => by unfold pqC; rw [e i hi]
  have e2 : pq2 ps sk ↔ pq2 ps sk' := by
    unfold pq2
    rw [n64_cong ps.length ec]
    constructor
    · rintro ⟨p, q⟩; exact ⟨p, fun i hi hc => q i hi (by rw [ec i hi]; exact hc)⟩
    · rintro ⟨p, q⟩; exact ⟨p, fun i hi hc => q i hi (by rw [← ec i hi]; exact hc)⟩
  refine ⟨fun c i j ij hj ci cj => h.1 (e2.mpr c) i j ij hj (by rw [ec i (by omega)]; exact ci) (by rw [ec j hj]; exact cj), fun c => ?_⟩
  obtain ⟨p, q⟩ := h.2 (fun z => c (e2.mp z))
  refine ⟨p.trans (sI_cong _ (fun i hi => by rw [e i hi])), q.trans (sI_cong _ (fun i hi => by rw [e i hi]))⟩
theorem lneg_int {x : Int64} (h : -9223372036854775807 ≤ x.toInt) : (-x).toInt = -x.toInt := i64_n h
/-- what the reference's all finds -/
theorem OT_ra {gr : Nat → Nat → Int} {ps : List pa} {sk : Nat → Bool} {lo hi : Nat → Int64} {num fre : Nat → Bool} {x y : Int32} {bd : Nat → Nat → Int64} {sd : Nat → Nat} (hm : ps.length ≤ 100000)
    (hl : ∀ i, i < ps.length → (lo i).toInt = pqL ps i ∧ (hi i).toInt = pqH ps i ∧ num i = pqN ps i ∧ fre i = pqF ps i ∧ rK x y i = sk i)
    (hr : ∀ i, i < ps.length → -4294967296 ≤ pqL ps i ∧ pqL ps i ≤ 4294967296 ∧ -4294967296 ≤ pqH ps i ∧ pqH ps i ≤ 4294967296)
    (hk : ∀ i, i < ps.length → sk i = true → pqN ps i = false)
    (hs : ∀ i, i < ps.length → pqF ps i = true → sd i = pqU ps i)
    (hb : ∀ i j, i < ps.length → j < ps.length → i ≠ j → pqF ps i = true → pqF ps j = true → (bd (pqU ps i) (pqU ps j)).toInt = gr (pqU ps i) (pqU ps j) ∧ (bd (oc_b (pqU ps i)) (oc_b (pqU ps j))).toInt = gr (oc_b (pqU ps i)) (oc_b (pqU ps j)) ∧ -4294967296 ≤ gr (pqU ps i) (pqU ps j) ∧ gr (pqU ps i) (pqU ps j) ≤ 4294967296 ∧ -4294967296 ≤ gr (oc_b (pqU ps i)) (oc_b (pqU ps j)) ∧ gr (oc_b (pqU ps i)) (oc_b (pqU ps j)) ≤ 4294967296) :
    OT gr ps sk (raE bd sd (raS lo hi num fre x y ps.length)).1.toInt (raE bd sd (raS lo hi num fre x y ps.length)).2.toInt ∧ (∀ v, v = (raE bd sd (raS lo hi num fre x y ps.length)).1 ∨ v = (raE bd sd (raS lo hi num fre x y ps.length)).2 → -1000000000000000 ≤ v.toInt ∧ v.toInt ≤ 1000000000000000) := by
  obtain ⟨S1, S2, S3⟩ := ra_sums (lo := lo) (hi := hi) (num := num) (fre := fre) (x := x) (y := y) ps.length
  obtain ⟨T1, T2⟩ := ra_two (lo := lo) (hi := hi) (num := num) (fre := fre) (x := x) (y := y) ps.length
  have ec : ∀ i, i < ps.length → rC num x y i = pqC ps sk i := fun i hi => by
    obtain ⟨-, -, c, -, e⟩ := hl i hi
    unfold rC pqC
    rw [c, e]
  have all : (∀ i, i < ps.length → rC num x y i = true → fre i = true) ↔ (∀ i, i < ps.length → pqC ps sk i = true → pqF ps i = true) := by
    constructor
    · intro w i hi hc
      obtain ⟨-, -, -, d, -⟩ := hl i hi
      rw [← d]; exact w i hi (by rw [ec i hi]; exact hc)
    · intro w i hi hc
      obtain ⟨-, -, -, d, -⟩ := hl i hi
      rw [d]; exact w i hi (by rw [← ec i hi]; exact hc)
  rw [all, n64_cong ps.length ec] at T1
  rw [all, n64_cong ps.length ec] at T2
  have s0 : (0 : Int64).toInt = 0 := rfl
  obtain ⟨A1, A2, A3⟩ := s64_int (f := fun i => if rK x y i = true then 0 else lo i) ps.length (by omega) (fun i hi => by
    obtain ⟨a, b, c, d, e⟩ := hl i hi
    obtain ⟨r1, r2, r3, r4⟩ := hr i hi
    try dsimp only
    split
    · rw [s0]; omega
    · rw [a]; omega)
  obtain ⟨B1, B2, B3⟩ := s64_int (f := fun i => if rK x y i = true then 0 else hi i) ps.length (by omega) (fun i hi => by
    obtain ⟨a, b, c, d, e⟩ := hl i hi
    obtain ⟨r1, r2, r3, r4⟩ := hr i hi
    try dsimp only
    split
    · rw [s0]; omega
    · rw [b]; omega)
  obtain ⟨C1, C2, C3⟩ := s64_int (f := fun i => if rK x y i = true then 0 else if num i = true then lo i else 0) ps.length (by omega) (fun i hi => by
    obtain ⟨a, b, c, d, e⟩ := hl i hi
    obtain ⟨r1, r2, r3, r4⟩ := hr i hi
    try dsimp only
    split
    · rw [s0]; omega
    · split
      · rw [a]; omega
      · rw [s0]; omega)
  rw [← S1] at A1 A2 A3
  rw [← S2] at B1 B2 B3
  rw [← S3] at C1 C2 C3
  have A1' : (raS lo hi num fre x y ps.length).1.toInt = sI (fun i => if sk i = true then 0 else pqL ps i) ps.length := A1.trans (sI_cong _ (fun i hi => by
    obtain ⟨a, b, c, d, e⟩ := hl i hi
    try dsimp only
    rw [e, ← a]
    split <;> rfl))
  have B1' : (raS lo hi num fre x y ps.length).2.1.toInt = sI (fun i => if sk i = true then 0 else pqH ps i) ps.length := B1.trans (sI_cong _ (fun i hi => by
    obtain ⟨a, b, c, d, e⟩ := hl i hi
    try dsimp only
    rw [e, ← b]
    split <;> rfl))
  have C1' : (raS lo hi num fre x y ps.length).2.2.1.toInt = pqX ps := C1.trans (sI_cong _ (fun i hi => by
    obtain ⟨a, b, c, d, e⟩ := hl i hi
    try dsimp only
    rw [e, c, ← a]
    by_cases k : sk i = true
    · rw [if_pos k, hk i hi k]; rfl
    · rw [if_neg k]
      split <;> rfl))
  clear S1 S2 S3 A1 B1 C1
  have hm' : ((ps.length : Nat) : Int) ≤ 100000 := by omega
  generalize raS lo hi num fre x y ps.length = s at *
  obtain ⟨s1, s2, s3, s4, s5, s6⟩ := s
  dsimp only at *
  by_cases c : pq2 ps sk
  · have t6 : s6 = true := T1.mpr ⟨c.2, Nat.le_of_eq c.1⟩
    obtain ⟨-, -, q2⟩ := T2 c.2
    obtain ⟨i, j, ij, hj, ci, cj, e4, e5⟩ := q2 (Nat.le_of_eq c.1.symm)
    subst e4 e5 t6
    rw [ec i (by omega)] at ci
    rw [ec j hj] at cj
    have fi := c.2 i (by omega) ci
    have fj := c.2 j hj cj
    have E : raE bd sd (s1, s2, s3, some i, some j, true) = (s3 - bd (oc_b (sd i)) (oc_b (sd j)), s3 + bd (sd i) (sd j)) := rfl
    rw [E, hs i (by omega) fi, hs j hj fj]
    obtain ⟨b1, b2, b3, b4, b5, b6⟩ := hb i j (by omega) hj (by omega) fi fj
    have n1 : (s3 - bd (oc_b (pqU ps i)) (oc_b (pqU ps j))).toInt = s3.toInt - gr (oc_b (pqU ps i)) (oc_b (pqU ps j)) := by
      rw [lsub_int (by omega) (by omega), b2]
    have n2 : (s3 + bd (pqU ps i) (pqU ps j)).toInt = s3.toInt + gr (pqU ps i) (pqU ps j) := by
      rw [ladd_int (by omega) (by omega), b1]
    refine ⟨⟨fun _ i' j' ij' hj' ci' cj' => ?_, fun z => absurd c z⟩, ?_⟩
    · have u1 := n64_2u c.1 (i := i) (j := j) (k := i') (by omega) (by omega) hj (by omega) ci cj ci'
      have u2 := n64_2u c.1 (i := i) (j := j) (k := j') (by omega) (by omega) hj hj' ci cj cj'
      have v1 : i' = i := by omega
      have v2 : j' = j := by omega
      subst v1 v2
      try dsimp only
      rw [n1, n2, C1']
      exact ⟨rfl, rfl⟩
    · rintro v (rfl | rfl)
      · (try dsimp only); rw [n1]; omega
      · (try dsimp only); rw [n2]; omega
  · have E : raE bd sd (s1, s2, s3, s4, s5, s6) = (s1, s2) := by
      cases s6 with
      | false => cases s4 <;> cases s5 <;> rfl
      | true =>
        obtain ⟨al, le⟩ := T1.mp rfl
        obtain ⟨q0, q1, -⟩ := T2 al
        have n5 : s5 = none := by
          by_cases z : n64 (pqC ps sk) ps.length = 0
          · exact (q0 z).2
          · by_cases z1 : n64 (pqC ps sk) ps.length = 1
            · obtain ⟨i, -, -, -, e⟩ := q1 z1
              exact e
            · exact absurd ⟨by omega, al⟩ c
        rw [n5]
        cases s4 <;> rfl
    rw [E]
    refine ⟨⟨fun z => absurd z c, fun _ => ⟨A1', B1'⟩⟩, ?_⟩
    rintro v (rfl | rfl)
    · (try dsimp only); omega
    · (try dsimp only); omega
