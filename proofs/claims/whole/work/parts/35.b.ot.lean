set_option maxRecDepth 100000
/-! what the class's findOthers finds -/
theorem n64_split {b c : Nat → Bool} : ∀ n, n64 b n = n64 (fun i => b i && c i) n + n64 (fun i => b i && !c i) n := by
  intro n
  induction n with
  | zero => rfl
  | succ n ih =>
    rw [n64_1, n64_1, n64_1, ih]
    cases b n <;> cases c n <;> simp <;> omega
theorem n64_1u {b : Nat → Bool} {n i k : Nat} (h : n64 b n = 1) (hi : i < n) (hk : k < n) (bi : b i = true) (bk : b k = true) : k = i := by
  refine Classical.byContradiction (fun w => ?_)
  have d1 := n64_del bi n hi
  have d2 := n64_del (b := fun k => b k && !decide (k = i)) (a := k) (by rw [bk, decide_eq_false w]; rfl) n hk
  omega
section OF
variable {ps : List pa} {nb : Nat} {t u z : Nat → Int32}
/-- the rows of the parts stand for the list -/
def ptr (nb : Nat) (t u : Nat → Int32) (ps : List pa) : Prop := ∀ i, i < ps.length → t i = (if (pq ps i).1 = true then 1 else 0) ∧ ((pqS ps i = -1 ∧ u i = -1) ∨ (pqS ps i = -2 ∧ u i = -2) ∨ ∃ s, u i = Int32.ofNat s ∧ pqS ps i = ((nb + s : Nat) : Int) ∧ nb + s < 12)
theorem ptr_uC (H : ptr nb t u ps) {x i : Nat} (hi : i < ps.length) : uC nb u x i = pqK ps x i := by
  unfold uC pqK
  rcases (H i hi).2 with ⟨a, b⟩ | ⟨a, b⟩ | ⟨s, b, a, c⟩
  · rw [a, b, decide_eq_true (show (-1 : Int32) < 0 by decide), decide_eq_false (show ¬ (-1 : Int) = (x : Int) by omega)]; rfl
  · rw [a, b, decide_eq_true (show (-2 : Int32) < 0 by decide), decide_eq_false (show ¬ (-2 : Int) = (x : Int) by omega)]; rfl
  · rw [a, b, decide_eq_false (by rw [nn_neg (by omega)]; exact fun w => w), nn_clamp (by omega)]
    by_cases e : nb + s = x
    · rw [decide_eq_true e, decide_eq_true (by omega)]; rfl
    · rw [decide_eq_false e, decide_eq_false (by omega)]; rfl
theorem ptr_n (H : ptr nb t u ps) (x : Nat) : n64 (uC nb u x) ps.length = n64 (pqK ps x) ps.length := n64_cong _ (fun _ hi => ptr_uC H hi)
theorem ptr_uF (H : ptr nb t u ps) {i : Nat} (hi : i < ps.length) : uF nb u ps.length i = pqF ps i := by
  unfold uF pqF
  rcases (H i hi).2 with ⟨a, b⟩ | ⟨a, b⟩ | ⟨s, b, a, c⟩
  · rw [b, decide_eq_true (show (-1 : Int32) < 0 by decide), Bool.not_true, Bool.false_and]; exact (decide_eq_false (fun w => by have := w.1; omega)).symm
  · rw [b, decide_eq_true (show (-2 : Int32) < 0 by decide), Bool.not_true, Bool.false_and]; exact (decide_eq_false (fun w => by have := w.1; omega)).symm
  · rw [b, decide_eq_false (by rw [nn_neg (by omega)]; exact fun w => w), nn_clamp (by omega), ptr_n H, a]
    by_cases e : n64 (pqK ps ((nb + s : Nat) : Int)) ps.length = 1
    · rw [decide_eq_true e, decide_eq_true ⟨by omega, e⟩]; rfl
    · rw [decide_eq_false e, decide_eq_false (fun w => e w.2)]; rfl
theorem ptr_sF (H : ptr nb t u ps) (hz : ∀ x, x < 12 → z x = 0) {x : Nat} (hx : x < 12) : sF (sgN nb t u z ps.length x) = decide (n64 (pqK ps x) ps.length = 1) := by
  rw [sF_at (hz x hx), ptr_n H]
theorem pqF_s {i : Nat} (h : pqF ps i = true) : ∃ x : Nat, pqS ps i = (x : Int) ∧ (pqS ps i).toNat = x ∧ n64 (pqK ps x) ps.length = 1 := by
  have w := of_decide_eq_true h
  refine ⟨(pqS ps i).toNat, by omega, rfl, ?_⟩
  have e : (((pqS ps i).toNat : Nat) : Int) = pqS ps i := by omega
  rw [e]; exact w.2
theorem ptr_s12 (H : ptr nb t u ps) {i : Nat} (hi : i < ps.length) (h0 : 0 ≤ pqS ps i) : (pqS ps i).toNat < 12 := by
  rcases (H i hi).2 with ⟨a, b⟩ | ⟨a, b⟩ | ⟨s, b, a, c⟩
  · omega
  · omega
  · omega
theorem ptr_U (H : ptr nb t u ps) (hz : ∀ x, x < 12 → z x = 0) {i : Nat} (hi : i < ps.length) (h : pqF ps i = true) : sF (sgN nb t u z ps.length (pqS ps i).toNat) = true ∧ foU (sgN nb t u z ps.length) (pqS ps i).toNat = pqU ps i := by
  obtain ⟨x, e1, e2, e3⟩ := pqF_s h
  have x12 : x < 12 := by have := ptr_s12 H hi (by omega); omega
  rw [e2]
  have s1 := ptr_sF H hz x12
  rw [e3] at s1
  refine ⟨s1, ?_⟩
  obtain ⟨-, b, -⟩ := sgN_at (nb := nb) (t := t) (u := u) (z := z) (x := x) (hz x x12) ps.length
  obtain ⟨k, k1, k2, k3⟩ := b (by rw [ptr_n H]; exact e3)
  rw [ptr_uC H k1] at k2
  have ki : k = i := n64_1u e3 hi k1 (decide_eq_true e1) k2
  subst ki
  unfold foU pqU
  rw [k3, (H k hi).1, e2]
  cases (pq ps k).1 <;> rfl
theorem slot_sum (H : ptr nb t u ps) (hz : ∀ x, x < 12 → z x = 0) (g : Nat → Int) : sI (fun x => if sF (sgN nb t u z ps.length x) = true then g x else 0) 12 = sI (fun i => if pqF ps i = true then g (pqS ps i).toNat else 0) ps.length := by
  have e1 : sI (fun x => if sF (sgN nb t u z ps.length x) = true then g x else 0) 12 = sI (fun x => sI (fun i => if pqK ps x i = true ∧ n64 (pqK ps x) ps.length = 1 then g x else 0) ps.length) 12 := by
    refine sI_cong 12 (fun x hx => ?_)
    rw [ptr_sF H hz hx]
    by_cases c : n64 (pqK ps x) ps.length = 1
    · rw [if_pos (decide_eq_true c)]
      have ex : ∃ i, i < ps.length ∧ pqK ps x i = true := by
        refine Classical.byContradiction (fun w => ?_)
        rw [n64_none _ (fun i hi => Bool.eq_false_iff.mpr (fun q => w ⟨i, hi, q⟩))] at c
        omega
      obtain ⟨i, hi, ki⟩ := ex
      rw [sI_only (a := i) ps.length hi (fun k hk ne => if_neg (fun w => ne (n64_1u c hi hk ki w.1))), if_pos ⟨ki, c⟩]
    · rw [if_neg (by rw [decide_eq_false c]; decide), sI_cong ps.length (g := fun _ => 0) (fun i _ => if_neg (fun w => c w.2)), sI_zero]
  rw [e1, sI_swap (g := fun x i => if pqK ps x i = true ∧ n64 (pqK ps x) ps.length = 1 then g x else 0)]
  refine sI_cong _ (fun i hi => ?_)
  by_cases f : pqF ps i = true
  · obtain ⟨x, x1, x2, x3⟩ := pqF_s f
    have x12 : x < 12 := by have := ptr_s12 H hi (by omega); omega
    rw [if_pos f, x2, sI_only (a := x) 12 x12 (fun k hk ne => if_neg (fun w => ne (by have := of_decide_eq_true w.1; omega))), if_pos ⟨decide_eq_true x1, x3⟩]
  · rw [if_neg f, sI_cong 12 (g := fun _ => 0) (fun x _ => if_neg (fun w => f (decide_eq_true (by
      have e := of_decide_eq_true w.1
      rw [e]
      exact ⟨by omega, w.2⟩)))), sI_zero]
theorem slot_n (H : ptr nb t u ps) (hz : ∀ x, x < 12 → z x = 0) (g : Nat → Bool) : n64 (fun x => sF (sgN nb t u z ps.length x) && g x) 12 = n64 (fun i => pqF ps i && g (pqS ps i).toNat) ps.length := by
  have e := slot_sum H hz (fun x => if g x = true then 1 else 0)
  have h1 := n64_sI (b := fun x => sF (sgN nb t u z ps.length x) && g x) 12
  have h2 := n64_sI (b := fun i => pqF ps i && g (pqS ps i).toNat) ps.length
  have c1 : sI (fun x => if (sF (sgN nb t u z ps.length x) && g x) = true then (1 : Int) else 0) 12 = sI (fun x => if sF (sgN nb t u z ps.length x) = true then (if g x = true then 1 else 0) else 0) 12 := sI_cong 12 (fun x _ => by
    cases sF (sgN nb t u z ps.length x) <;> cases g x <;> rfl)
  have c2 : sI (fun i => if (pqF ps i && g (pqS ps i).toNat) = true then (1 : Int) else 0) ps.length = sI (fun i => if pqF ps i = true then (if g (pqS ps i).toNat = true then 1 else 0) else 0) ps.length := sI_cong _ (fun i _ => by
    cases pqF ps i <;> cases g (pqS ps i).toNat <;> rfl)
  rw [c1, e, ← c2, ← h2] at h1
  omega
/-- which parts are skipped, by their slots -/
def skS (ps : List pa) (x y : Int32) (i : Nat) : Bool := pqF ps i && rK x y (pqS ps i).toNat
theorem pqF_N {i : Nat} (h : pqF ps i = true) : pqN ps i = false := by
  have w := of_decide_eq_true h
  unfold pqN
  exact decide_eq_false (by omega)
theorem OT_fo {gr : Nat → Nat → Int} {g64 : Nat → Nat → Int64} {n : Nat} {x y fr mx : Int32} {fl fh li : Int64} (hm : ps.length ≤ 100000) (H : ptr nb t u ps) (hz : ∀ x, x < 12 → z x = 0)
    (hfl : fl.toInt = sI (pqL ps) ps.length) (hfh : fh.toInt = sI (pqH ps) ps.length) (hli : li.toInt = pqX ps) (hbd : ∀ v, v = fl ∨ v = fh ∨ v = li → -1000000000000000 ≤ v.toInt ∧ v.toInt ≤ 1000000000000000)
    (hmx : mx = Int32.ofNat (n64 (fun i => !pqN ps i) ps.length)) (hfr : fr = Int32.ofNat (n64 (fun x => sF (sgN nb t u z ps.length x)) 12))
    (hn : ∀ i, i < ps.length → 0 ≤ pqS ps i → (pqS ps i).toNat < n)
    (hg : ∀ v w, v < 2 * n → w < 2 * n → (g64 v w).toInt = gr v w ∧ gr v w = gr w v ∧ -4294967296 ≤ gr v w ∧ gr v w ≤ 4294967296)
    (hnm : ∀ i, i < ps.length → 0 ≤ pqS ps i → pqL ps i = -gr (oc_b (pqU ps i)) (oc_b (pqU ps i)) ∧ pqH ps i = gr (pqU ps i) (pqU ps i)) :
    OT gr ps (skS ps x y) (foE g64 fr mx li (foS g64 (sgN nb t u z ps.length) x y mx fl fh 12)).1.toInt (foE g64 fr mx li (foS g64 (sgN nb t u z ps.length) x y mx fl fh 12)).2.toInt ∧ (∀ v, v = (foE g64 fr mx li (foS g64 (sgN nb t u z ps.length) x y mx fl fh 12)).1 ∨ v = (foE g64 fr mx li (foS g64 (sgN nb t u z ps.length) x y mx fl fh 12)).2 → -2000000000000000 ≤ v.toInt ∧ v.toInt ≤ 2000000000000000) := by
  have U2 : ∀ i, i < ps.length → pqF ps i = true → pqU ps i < 2 * n ∧ oc_b (pqU ps i) < 2 * n := fun i hi f => by
    obtain ⟨x, x1, x2, x3⟩ := pqF_s f
    have := hn i hi (by omega)
    have a : pqU ps i < 2 * n := by unfold pqU; split <;> omega
    refine ⟨a, ?_⟩
    unfold oc_b
    split <;> omega
  have skN : ∀ i, skS ps x y i = true → pqF ps i = true := fun i h => (Bool.and_eq_true _ _ ▸ h : _ ∧ _).1
  obtain ⟨F1, F2, F3⟩ := fo_sums (gr := g64) (sg := sgN nb t u z ps.length) (x := x) (y := y) (mx := mx) (fl := fl) (fh := fh) 12
  obtain ⟨-, -, T3⟩ := fo_two (gr := g64) (sg := sgN nb t u z ps.length) (x := x) (y := y) (mx := mx) (fl := fl) (fh := fh) 12
  have kN : n64 (fK (sgN nb t u z ps.length) x y) 12 = n64 (skS ps x y) ps.length := slot_n H hz (rK x y)
  have cN : n64 (fC (sgN nb t u z ps.length) x y) 12 = n64 (fun i => pqF ps i && !rK x y (pqS ps i).toNat) ps.length := slot_n H hz (fun x' => !rK x y x')
  have frN : n64 (fun x => sF (sgN nb t u z ps.length x)) 12 = n64 (pqF ps) ps.length := by
    have := slot_n H hz (fun _ => true)
    rw [n64_cong (c := fun x => sF (sgN nb t u z ps.length x)) 12 (fun i _ => Bool.and_true _), n64_cong (c := pqF ps) ps.length (fun i _ => Bool.and_true _)] at this
    exact this
  -- a free slot is a part's
  have fz : ∀ q, q < 12 → sF (sgN nb t u z ps.length q) = true → ∃ i, i < ps.length ∧ pqF ps i = true ∧ (pqS ps i).toNat = q := fun q hq h => by
    rw [ptr_sF H hz hq] at h
    have c := of_decide_eq_true h
    refine Classical.byContradiction (fun w => ?_)
    rw [n64_none _ (fun i hi => Bool.eq_false_iff.mpr (fun k => w ⟨i, hi, decide_eq_true (by
      have e := of_decide_eq_true k
      rw [e]
      exact ⟨by omega, c⟩), by have e := of_decide_eq_true k; omega⟩))] at c
    omega
  have fU : ∀ q, q < 12 → sF (sgN nb t u z ps.length q) = true → foU (sgN nb t u z ps.length) q < 2 * n ∧ oc_b (foU (sgN nb t u z ps.length) q) < 2 * n := fun q hq h => by
    obtain ⟨i, hi, f, e⟩ := fz q hq h
    have := (ptr_U H hz hi f).2
    rw [e] at this
    rw [this]; exact U2 i hi f
  have s0 : (0 : Int64).toInt = 0 := rfl
  obtain ⟨A1, A2, A3⟩ := s64_int (f := fun q => if fK (sgN nb t u z ps.length) x y q = true then g64 (oc_b (foU (sgN nb t u z ps.length) q)) (oc_b (foU (sgN nb t u z ps.length) q)) else 0) 12 (by omega) (fun q hq => by
    try dsimp only
    split
    · next k =>
      have b := fU q hq (Bool.and_eq_true _ _ ▸ k : _ ∧ _).1
      obtain ⟨g1, g2, g3, g4⟩ := hg _ _ b.2 b.2
      rw [g1]; omega
    · rw [s0]; omega)
  obtain ⟨B1, B2, B3⟩ := s64_int (f := fun q => if fK (sgN nb t u z ps.length) x y q = true then g64 (foU (sgN nb t u z ps.length) q) (foU (sgN nb t u z ps.length) q) else 0) 12 (by omega) (fun q hq => by
    try dsimp only
    split
    · next k =>
      have b := fU q hq (Bool.and_eq_true _ _ ▸ k : _ ∧ _).1
      obtain ⟨g1, g2, g3, g4⟩ := hg _ _ b.1 b.1
      rw [g1]; omega
    · rw [s0]; omega)
  have A1' : sI (fun q => (if fK (sgN nb t u z ps.length) x y q = true then g64 (oc_b (foU (sgN nb t u z ps.length) q)) (oc_b (foU (sgN nb t u z ps.length) q)) else 0).toInt) 12 = sI (fun i => if skS ps x y i = true then -pqL ps i else 0) ps.length := by
    have e := slot_sum H hz (fun q => if rK x y q = true then gr (oc_b (foU (sgN nb t u z ps.length) q)) (oc_b (foU (sgN nb t u z ps.length) q)) else 0)
    refine Eq.trans (sI_cong 12 (fun q hq => ?_)) (e.trans (sI_cong _ (fun i hi => ?_)))
    · unfold fK
      cases hs : sF (sgN nb t u z ps.length q) with
      | false => rfl
      | true =>
        cases rK x y q with
        | false => rfl
        | true => exact (hg _ _ (fU q hq hs).2 (fU q hq hs).2).1
    · unfold skS
      cases hf : pqF ps i with
      | false => rfl
      | true =>
        obtain ⟨q, q1, q2, q3⟩ := pqF_s hf
        have nm := (hnm i hi (by omega)).1
        have uu := (ptr_U H hz hi hf).2
        rw [if_pos rfl, uu, nm, Int.neg_neg, Bool.true_and]
  have B1' : sI (fun q => (if fK (sgN nb t u z ps.length) x y q = true then g64 (foU (sgN nb t u z ps.length) q) (foU (sgN nb t u z ps.length) q) else 0).toInt) 12 = sI (fun i => if skS ps x y i = true then pqH ps i else 0) ps.length := by
    have e := slot_sum H hz (fun q => if rK x y q = true then gr (foU (sgN nb t u z ps.length) q) (foU (sgN nb t u z ps.length) q) else 0)
    refine Eq.trans (sI_cong 12 (fun q hq => ?_)) (e.trans (sI_cong _ (fun i hi => ?_)))
    · unfold fK
      cases hs : sF (sgN nb t u z ps.length q) with
      | false => rfl
      | true =>
        cases rK x y q with
        | false => rfl
        | true => exact (hg _ _ (fU q hq hs).1 (fU q hq hs).1).1
    · unfold skS
      cases hf : pqF ps i with
      | false => rfl
      | true =>
        obtain ⟨q, q1, q2, q3⟩ := pqF_s hf
        have nm := (hnm i hi (by omega)).2
        have uu := (ptr_U H hz hi hf).2
        rw [if_pos rfl, uu, nm, Bool.true_and]
  obtain ⟨m1, m2⟩ := hbd fl (Or.inl rfl)
  obtain ⟨m3, m4⟩ := hbd fh (Or.inr (Or.inl rfl))
  obtain ⟨m5, m6⟩ := hbd li (Or.inr (Or.inr rfl))
  have L4 : (foS g64 (sgN nb t u z ps.length) x y mx fl fh 12).2.2.2.1.toInt = sI (fun i => if skS ps x y i = true then 0 else pqL ps i) ps.length := by
    rw [F2, ladd_int (by omega) (by omega), hfl, A1, A1', ← sI_add]
    refine sI_cong _ (fun i _ => ?_)
    split <;> omega
  have L5 : (foS g64 (sgN nb t u z ps.length) x y mx fl fh 12).2.2.2.2.toInt = sI (fun i => if skS ps x y i = true then 0 else pqH ps i) ps.length := by
    rw [F3, lsub_int (by omega) (by omega), hfh, B1, B1', ← sI_sub]
    refine sI_cong _ (fun i _ => ?_)
    split <;> omega
  have M4 : -2000000000000000 ≤ (foS g64 (sgN nb t u z ps.length) x y mx fl fh 12).2.2.2.1.toInt ∧ (foS g64 (sgN nb t u z ps.length) x y mx fl fh 12).2.2.2.1.toInt ≤ 2000000000000000 := by
    rw [F2, ladd_int (by omega) (by omega)]; omega
  have M5 : -2000000000000000 ≤ (foS g64 (sgN nb t u z ps.length) x y mx fl fh 12).2.2.2.2.toInt ∧ (foS g64 (sgN nb t u z ps.length) x y mx fl fh 12).2.2.2.2.toInt ≤ 2000000000000000 := by
    rw [F3, lsub_int (by omega) (by omega)]; omega
  -- how many are left
  have sp := n64_split (b := fun i => !pqN ps i) (c := skS ps x y) ps.length
  rw [n64_cong (b := fun i => !pqN ps i && skS ps x y i) (c := skS ps x y) ps.length (fun i _ => by
    cases h : skS ps x y i with
    | false => exact Bool.and_false _
    | true => rw [pqF_N (skN i h)]; rfl), n64_cong (b := fun i => !pqN ps i && !skS ps x y i) (c := pqC ps (skS ps x y)) ps.length (fun i _ => Bool.and_comm _ _)] at sp
  have le1 := n64_le (b := fun i => !pqN ps i) ps.length
  have left : mx - Int32.ofNat (n64 (fK (sgN nb t u z ps.length) x y) 12) = Int32.ofNat (n64 (pqC ps (skS ps x y)) ps.length) := by
    rw [hmx, kN, sp, Int32.ofNat_add, Int32.add_comm, Int32.add_sub_cancel]
  rw [left] at F1
  have two : (Int32.ofNat (n64 (pqC ps (skS ps x y)) ps.length) = 2) = (n64 (pqC ps (skS ps x y)) ps.length = 2) := nn_eq (b := 2) (by omega) (by decide)
  have frl := n64_sub (b := pqF ps) (c := fun i => !pqN ps i) ps.length (fun i _ h => by rw [pqF_N h]; rfl)
  have eqf : (fr = mx) = (n64 (pqF ps) ps.length = n64 (fun i => !pqN ps i) ps.length) := by
    rw [hfr, hmx, frN]
    exact nn_eq (by omega) (by omega)
  have all2 : (∀ i, i < ps.length → (!pqN ps i) = true → pqF ps i = true) ↔ (∀ i, i < ps.length → pqC ps (skS ps x y) i = true → pqF ps i = true) := by
    constructor
    · intro w i hi hc
      exact w i hi (Bool.and_eq_true _ _ ▸ hc : _ ∧ _).2
    · intro w i hi hc
      cases h : skS ps x y i with
      | true => exact skN i h
      | false => exact w i hi (by unfold pqC; rw [h, hc]; rfl)
  by_cases c : pq2 ps (skS ps x y)
  · have eF : fr = mx := by rw [eqf, frl.2]; exact all2.mpr c.2
    have cC : n64 (fC (sgN nb t u z ps.length) x y) 12 = 2 := by
      rw [cN, ← c.1]
      refine n64_cong _ (fun i hi => ?_)
      cases hf : pqF ps i with
      | false =>
        cases hc : pqC ps (skS ps x y) i with
        | false => rfl
        | true => rw [c.2 i hi hc] at hf; cases hf
      | true =>
        unfold pqC skS
        rw [hf, pqF_N hf, Bool.true_and, Bool.true_and, Bool.not_false, Bool.and_true]
    obtain ⟨z1, z2, z12, hz2, k1, k2, v1, v2⟩ := T3 (by omega)
    have E : foE g64 fr mx li (foS g64 (sgN nb t u z ps.length) x y mx fl fh 12) = (li - g64 (oc_b (foU (sgN nb t u z ps.length) z1)) (oc_b (foU (sgN nb t u z ps.length) z2)), li + g64 (foU (sgN nb t u z ps.length) z1) (foU (sgN nb t u z ps.length) z2)) := by
      unfold foE
      rw [v1, v2]
      try dsimp only
      rw [if_pos ⟨eF, by rw [F1, two]; exact c.1⟩]
    have q1 := fU z1 (by omega) (Bool.and_eq_true _ _ ▸ k1 : _ ∧ _).1
    have q2 := fU z2 (by omega) (Bool.and_eq_true _ _ ▸ k2 : _ ∧ _).1
    obtain ⟨g1, g2, g3, g4⟩ := hg _ _ q1.1 q2.1
    obtain ⟨g5, g6, g7, g8⟩ := hg _ _ q1.2 q2.2
    rw [E]
    try dsimp only
    have n1 : (li - g64 (oc_b (foU (sgN nb t u z ps.length) z1)) (oc_b (foU (sgN nb t u z ps.length) z2))).toInt = pqX ps - gr (oc_b (foU (sgN nb t u z ps.length) z1)) (oc_b (foU (sgN nb t u z ps.length) z2)) := by
      rw [lsub_int (by omega) (by omega), g5, hli]
    have n2 : (li + g64 (foU (sgN nb t u z ps.length) z1) (foU (sgN nb t u z ps.length) z2)).toInt = pqX ps + gr (foU (sgN nb t u z ps.length) z1) (foU (sgN nb t u z ps.length) z2) := by
      rw [ladd_int (by omega) (by omega), g1, hli]
    refine ⟨⟨fun _ i j ij hj ci cj => ?_, fun w => absurd c w⟩, ?_⟩
    · have fi := c.2 i (by omega) ci
      have fj := c.2 j hj cj
      obtain ⟨a, a1, a2, a3⟩ := pqF_s fi
      obtain ⟨b, b1, b2, b3⟩ := pqF_s fj
      have ui := ptr_U H hz (show i < ps.length by omega) fi
      have uj := ptr_U H hz hj fj
      rw [a2] at ui
      rw [b2] at uj
      have a12 : a < 12 := by have := ptr_s12 H (show i < ps.length by omega) (by omega); omega
      have b12 : b < 12 := by have := ptr_s12 H hj (by omega); omega
      have ra : rK x y a = false := by
        have := (Bool.and_eq_true _ _ ▸ ci : _ ∧ _).1
        unfold skS at this
        rw [fi, a2] at this
        cases h : rK x y a with
        | false => rfl
        | true => rw [h] at this; exact absurd this (by decide)
      have rb : rK x y b = false := by
        have := (Bool.and_eq_true _ _ ▸ cj : _ ∧ _).1
        unfold skS at this
        rw [fj, b2] at this
        cases h : rK x y b with
        | false => rfl
        | true => rw [h] at this; exact absurd this (by decide)
      have ca : fC (sgN nb t u z ps.length) x y a = true := by unfold fC; rw [ui.1, ra]; rfl
      have cb : fC (sgN nb t u z ps.length) x y b = true := by unfold fC; rw [uj.1, rb]; rfl
      have nab : a ≠ b := fun w => by
        rw [← w] at b1
        have := n64_1u a3 (show i < ps.length by omega) hj (decide_eq_true a1) (decide_eq_true b1)
        omega
      have da := n64_2u cC (i := z1) (j := z2) (k := a) (by omega) (by omega) hz2 a12 k1 k2 ca
      have db := n64_2u cC (i := z1) (j := z2) (k := b) (by omega) (by omega) hz2 b12 k1 k2 cb
      rw [n1, n2, ← ui.2, ← uj.2]
      rcases da with e1 | e1
      · rcases db with e2 | e2
        · exact absurd (e1.trans e2.symm) nab
        · rw [e1, e2]; exact ⟨rfl, rfl⟩
      · rcases db with e2 | e2
        · rw [e1, e2, g2, g6]; exact ⟨rfl, rfl⟩
        · exact absurd (e1.trans e2.symm) nab
    · rintro v (rfl | rfl)
      · rw [n1]; omega
      · rw [n2]; omega
  · have E : foE g64 fr mx li (foS g64 (sgN nb t u z ps.length) x y mx fl fh 12) = ((foS g64 (sgN nb t u z ps.length) x y mx fl fh 12).2.2.2.1, (foS g64 (sgN nb t u z ps.length) x y mx fl fh 12).2.2.2.2) := by
      have no : ¬ (fr = mx ∧ (foS g64 (sgN nb t u z ps.length) x y mx fl fh 12).1 = 2) := fun w => by
        rw [F1, two, eqf, frl.2, all2] at w
        exact c ⟨w.2, w.1⟩
      unfold foE
      split
      · rw [if_neg no]
      · rfl
    rw [E]
    try dsimp only
    refine ⟨⟨fun w => absurd w c, fun _ => ⟨L4, L5⟩⟩, ?_⟩
    rintro v (rfl | rfl)
    · exact M4
    · exact M5
end OF
