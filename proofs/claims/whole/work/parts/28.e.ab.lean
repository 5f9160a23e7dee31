set_option maxRecDepth 100000
/-! WHAT IS KNOWN, as numbers: one thing for State (the class) and Known (the reference) -/
abbrev ab : Type := Nat × Nat × oc_M × (Nat → Int) × (Nat → Int) × (Nat → Nat)
def ab.n (A : ab) : Nat := A.1
def ab.a (A : ab) : Nat := A.2.1
def ab.m (A : ab) : oc_M := A.2.2.1
def ab.lo (A : ab) : Nat → Int := A.2.2.2.1
def ab.hi (A : ab) : Nat → Int := A.2.2.2.2.1
def ab.rm (A : ab) : Nat → Nat := A.2.2.2.2.2
def ab_mk (n a : Nat) (m : oc_M) (lo hi : Nat → Int) (rm : Nat → Nat) : ab := (n, a, m, lo, hi, rm)
theorem ab_n {n a : Nat} {m : oc_M} {lo hi : Nat → Int} {rm : Nat → Nat} : (ab_mk n a m lo hi rm).n = n := rfl
theorem ab_a {n a : Nat} {m : oc_M} {lo hi : Nat → Int} {rm : Nat → Nat} : (ab_mk n a m lo hi rm).a = a := rfl
theorem ab_m {n a : Nat} {m : oc_M} {lo hi : Nat → Int} {rm : Nat → Nat} : (ab_mk n a m lo hi rm).m = m := rfl
theorem ab_lo {n a : Nat} {m : oc_M} {lo hi : Nat → Int} {rm : Nat → Nat} : (ab_mk n a m lo hi rm).lo = lo := rfl
theorem ab_hi {n a : Nat} {m : oc_M} {lo hi : Nat → Int} {rm : Nat → Nat} : (ab_mk n a m lo hi rm).hi = hi := rfl
theorem ab_rm {n a : Nat} {m : oc_M} {lo hi : Nat → Int} {rm : Nat → Nat} : (ab_mk n a m lo hi rm).rm = rm := rfl
def gI (v : Nat) : Int := if v % 2 = 0 then 2147483647 else 2147483648
theorem gI_sg (v : Nat) : (sg v).toInt = gI v := by unfold sg gI; split <;> rfl
theorem gI_r (v : Nat) : 2147483647 ≤ gI v ∧ gI v ≤ 2147483648 := by unfold gI; split <;> omega
theorem gI_b (v : Nat) : gI (oc_b v) + gI v = 4294967295 := by unfold gI oc_b; split <;> split <;> omega
/-- in order: tight, and all within the ints -/
abbrev ab_T (A : ab) : Prop := (A.n ≤ 12) ∧ (A.a ≤ 6) ∧ (oc_T A.n A.m) ∧ (∀ i j, i < 2 * A.n → j < 2 * A.n → i ≠ j → A.m i j ≤ gI j + gI (oc_b i)) ∧ (∀ x, x < A.a → -2147483648 ≤ A.lo x ∧ A.lo x ≤ A.hi x ∧ A.hi x ≤ 2147483647)
theorem ab_T.n12 {A : ab} (q : ab_T A) : A.n ≤ 12 := q.1
theorem ab_T.a6 {A : ab} (q : ab_T A) : A.a ≤ 6 := q.2.1
theorem ab_T.t {A : ab} (q : ab_T A) : oc_T A.n A.m := q.2.2.1
theorem ab_T.up {A : ab} (q : ab_T A) : ∀ i j, i < 2 * A.n → j < 2 * A.n → i ≠ j → A.m i j ≤ gI j + gI (oc_b i) := q.2.2.2.1
theorem ab_T.e {A : ab} (q : ab_T A) : ∀ x, x < A.a → -2147483648 ≤ A.lo x ∧ A.lo x ≤ A.hi x ∧ A.hi x ≤ 2147483647 := q.2.2.2.2
theorem ab_T.lo2 {A : ab} (h : ab_T A) {i j : Nat} (hi : i < 2 * A.n) (hj : j < 2 * A.n) : -4294967296 ≤ A.m i j ∧ A.m i j ≤ 4294967296 := by
  have c := oc_T_cyc h.t hi hj
  have z := h.t.1.1 i hi
  by_cases e : i = j
  · subst e; omega
  · have a := h.up i j hi hj e
    have b := h.up j i hj hi (fun q => e q.symm)
    have g1 := gI_r j
    have g2 := gI_r (oc_b i)
    have g3 := gI_r i
    have g4 := gI_r (oc_b j)
    omega
/-- the operations -/
def a_lim (v w : Nat) (c : Int) (A : ab) : ab := (ab_mk A.n A.a (fun i j => if (i = oc_b w ∧ j = v) ∨ (i = oc_b v ∧ j = w) then min (A.m i j) (if v = w then 2 * c else c) else A.m i j) A.lo A.hi A.rm)
def a_frm (x : Nat) (m : oc_M) : oc_M := fun i j => if i / 2 = x ∨ j / 2 = x then (if i = j then 0 else if i / 2 = j / 2 then 2 * gI (oc_b i) else if i / 2 = x then gI (oc_b i) + m (oc_b j) j / 2 else gI j + m i (oc_b i) / 2) else m i j
def a_free (x : Nat) (A : ab) : ab := (ab_mk A.n A.a (a_frm x A.m) A.lo A.hi A.rm)
def a_turn (x : Nat) (A : ab) : ab := (ab_mk A.n A.a (fun i j => A.m (ng_t x i) (ng_t x j)) A.lo A.hi A.rm)
def a_sa (x : Nat) (l u : Int) (i : Nat) : Int := if i = 2 * x then -l else if i = 2 * x + 1 then u else 0
def a_shift (x : Nat) (l u : Int) (A : ab) : ab := (ab_mk A.n A.a (fun i j => A.m i j + (if i = j then 0 else a_sa x l u i + a_sa x l u (oc_b j))) A.lo A.hi A.rm)
def a_add (A : ab) : ab := (ab_mk (A.n + 1) A.a (a_frm A.n A.m) A.lo A.hi A.rm)
def a_arr (r : Nat) (A : ab) : ab := (ab_mk A.n (A.a + 1) A.m (fun x => if x = A.a then 0 else A.lo x) (fun x => if x = A.a then 0 else A.hi x) (fun x => if x = A.a then r else A.rm x))
def a_keep (n a : Nat) (A : ab) : ab := (ab_mk (n) (a) A.m A.lo A.hi A.rm)
def a_join (A B : ab) : ab := (ab_mk A.n A.a (fun i j => max (A.m i j) (B.m i j)) (fun x => min (A.lo x) (B.lo x)) (fun x => max (A.hi x) (B.hi x)) A.rm)
def o_join : Option ab → Option ab → Option ab
  | x, none => x
  | none, some B => some B
  | some A, some B => some (a_join A B)
def a_wid (A B : ab) : ab := (ab_mk A.n A.a (fun i j => if A.m i j < B.m i j then gI j + gI (oc_b i) else A.m i j) (fun x => if B.lo x < A.lo x then -2147483648 else A.lo x) (fun x => if A.hi x < B.hi x then 2147483647 else A.hi x) A.rm)
def a_le (A B : ab) : Prop := (∀ i j, i < 2 * A.n → j < 2 * A.n → A.m i j ≤ B.m i j) ∧ ∀ x, x < A.a → B.lo x ≤ A.lo x ∧ A.hi x ≤ B.hi x
def o_le : Option ab → Option ab → Prop
  | none, _ => True
  | some _, none => False
  | some A, some B => a_le A B
noncomputable def a_cl (A : ab) : Option ab := @dite _ (∃ t, oc_G A.n A.m t) (Classical.propDecidable _) (fun h => some (ab_mk A.n A.a (h.choose) A.lo A.hi A.rm)) (fun _ => none)
theorem a_cl_some {A : ab} {t : oc_M} (h : oc_G A.n A.m t) : ∃ B, a_cl A = some B ∧ B.n = A.n ∧ B.a = A.a ∧ B.lo = A.lo ∧ B.hi = A.hi ∧ B.rm = A.rm ∧ oc_G A.n A.m B.m ∧ ∀ i j, i < 2 * A.n → j < 2 * A.n → B.m i j = t i j := by
  have e : ∃ t, oc_G A.n A.m t := ⟨t, h⟩
  refine ⟨(ab_mk A.n A.a (e.choose) A.lo A.hi A.rm), by unfold a_cl; rw [dif_pos e], rfl, rfl, rfl, rfl, rfl, e.choose_spec, fun i j hi hj => oc_G_one e.choose_spec h hi hj⟩
theorem a_cl_none {A : ab} (h : ∀ a, oc_T A.n a → ¬ oc_le A.n a A.m) : a_cl A = none := by
  unfold a_cl
  rw [dif_neg]
  rintro ⟨t, h1, h2, -⟩
  exact h t h1 h2
/-- a closed one is in order -/
theorem a_cl_T {A B : ab} (h : a_cl A = some B) (hn : A.n ≤ 12) (ha : A.a ≤ 6) (hu : ∀ i j, i < 2 * A.n → j < 2 * A.n → i ≠ j → A.m i j ≤ gI j + gI (oc_b i)) (he : ∀ x, x < A.a → -2147483648 ≤ A.lo x ∧ A.lo x ≤ A.hi x ∧ A.hi x ≤ 2147483647) : ab_T B ∧ B.n = A.n ∧ B.a = A.a ∧ B.lo = A.lo ∧ B.hi = A.hi ∧ B.rm = A.rm := by
  by_cases e : ∃ t, oc_G A.n A.m t
  · obtain ⟨t, ht⟩ := e
    obtain ⟨C, h1, h2, h3, h4, h5, h6, h7, h8⟩ := a_cl_some ht
    rw [h] at h1
    cases h1
    refine ⟨⟨by omega, by omega, by rw [h2]; exact h7.1, fun i j hi hj hij => ?_, fun x hx => ?_⟩, h2, h3, h4, h5, h6⟩
    · have := h7.2.1 i j (by omega) (by omega)
      have := hu i j (by omega) (by omega) hij
      omega
    · rw [h4, h5]; exact he x (by omega)
  · unfold a_cl at h
    rw [dif_neg e] at h
    cases h
/-! coherent matrices, and what the operations keep -/
theorem a_lim_C {v w : Nat} {c : Int} {A : ab} (h : oc_C A.n A.m) (hv : v < 2 * A.n) (hw : w < 2 * A.n) (hvw : v ≠ oc_b w) : oc_C A.n (a_lim v w c A).m := by
  refine ⟨fun i hi => ?_, fun i j hi hj => ?_⟩
  · show (if _ then _ else _) = _
    rw [if_neg]
    · exact h.1 i hi
    · rintro (⟨e1, e2⟩ | ⟨e1, e2⟩)
      · exact hvw (by rw [← e2, e1])
      · exact hvw (by rw [← e2, e1, oc_bb])
  · show (if _ then _ else _) = (if _ then _ else _)
    have e : ((i = oc_b w ∧ j = v) ∨ (i = oc_b v ∧ j = w)) ↔ ((oc_b j = oc_b w ∧ oc_b i = v) ∨ (oc_b j = oc_b v ∧ oc_b i = w)) := by
      have inj : ∀ x y, oc_b x = oc_b y ↔ x = y := fun x y => ⟨fun z => by rw [← oc_bb x, z, oc_bb], fun z => by rw [z]⟩
      have inj2 : ∀ x y, oc_b x = y ↔ x = oc_b y := fun x y => ⟨fun z => by rw [← z, oc_bb], fun z => by rw [z, oc_bb]⟩
      rw [inj, inj, inj2, inj2]
      constructor
      · rintro (⟨a, b⟩ | ⟨a, b⟩)
        · exact Or.inr ⟨b, a⟩
        · exact Or.inl ⟨b, a⟩
      · rintro (⟨a, b⟩ | ⟨a, b⟩)
        · exact Or.inr ⟨b, a⟩
        · exact Or.inl ⟨b, a⟩
    by_cases c1 : (i = oc_b w ∧ j = v) ∨ (i = oc_b v ∧ j = w)
    · rw [if_pos c1, if_pos (e.mp c1), h.2 i j hi hj]
    · rw [if_neg c1, if_neg (fun z => c1 (e.mpr z)), h.2 i j hi hj]
theorem a_turn_T {n x : Nat} {m : oc_M} (h : oc_T n m) (hx : x < n) : oc_T n (fun i j => m (ng_t x i) (ng_t x j)) := by
  have hl : ∀ i, i < 2 * n → ng_t x i < 2 * n := fun i hi => by unfold ng_t; split; exact oc_bl hi; exact hi
  have ne : ∀ i, ng_t x (oc_b i) = oc_b (ng_t x i) := fun i => ng_tb x i
  refine ⟨⟨fun i hi => h.1.1 _ (hl i hi), fun i j hi hj => ?_⟩, fun k hk i j hi hj => ?_, fun i hi => ?_, fun i j hi hj => ?_⟩
  · show m _ _ = m _ _
    rw [ne, ne]; exact h.1.2 _ _ (hl i hi) (hl j hj)
  · exact h.2.1 _ (hl k hk) _ _ (hl i hi) (hl j hj)
  · show m _ (ng_t x (oc_b i)) % 2 = 0
    rw [ne]; exact h.2.2.1 _ (hl i hi)
  · show 2 * m _ _ ≤ m _ (ng_t x (oc_b i)) + m (ng_t x (oc_b j)) _
    rw [ne, ne]; exact h.2.2.2 _ _ (hl i hi) (hl j hj)
theorem a_sa_b {x : Nat} {l u : Int} (i : Nat) : a_sa x l u (oc_b i) = if i = 2 * x then u else if i = 2 * x + 1 then -l else 0 := by
  unfold a_sa oc_b
  by_cases c : i % 2 = 0
  · rw [if_pos c]
    by_cases c1 : i = 2 * x
    · rw [if_neg (by omega), if_pos (by omega), if_pos c1]
    · rw [if_neg (by omega), if_neg (by omega), if_neg c1, if_neg (by omega)]
  · rw [if_neg c]
    by_cases c1 : i = 2 * x + 1
    · rw [if_pos (by omega), if_neg (by omega), if_pos c1]
    · rw [if_neg (by omega), if_neg (by omega), if_neg (by omega), if_neg c1]
theorem a_shift_T {n x : Nat} {m : oc_M} {l u : Int} (h : oc_T n m) (hlu : l ≤ u) : oc_T n (fun i j => m i j + (if i = j then 0 else a_sa x l u i + a_sa x l u (oc_b j))) := by
  have sum : ∀ i, 0 ≤ a_sa x l u i + a_sa x l u (oc_b i) := fun i => by rw [a_sa_b]; unfold a_sa; split <;> (try split) <;> omega
  have binj : ∀ i j, oc_b j = oc_b i ↔ i = j := fun i j => ⟨fun z => by rw [← oc_bb i, ← z, oc_bb], fun z => by rw [z]⟩
  refine ⟨⟨fun i hi => ?_, fun i j hi hj => ?_⟩, fun k hk i j hi hj => ?_, fun i hi => ?_, fun i j hi hj => ?_⟩
  · show m i i + _ = 0
    rw [if_pos rfl, h.1.1 i hi]; rfl
  · show m i j + _ = m (oc_b j) (oc_b i) + _
    rw [h.1.2 i j hi hj]
    by_cases c : i = j
    · rw [if_pos c, if_pos ((binj i j).mpr c)]
    · rw [if_neg c, if_neg (fun z => c ((binj i j).mp z)), oc_bb]; omega
  · show m i j + _ ≤ (m i k + _) + (m k j + _)
    have b := h.2.1 k hk i j hi hj
    have s := sum k
    have z := h.1.1 i hi
    by_cases c1 : i = k
    · subst c1; rw [if_pos rfl]; have := h.1.1 i hi; omega
    · by_cases c2 : k = j
      · subst c2; rw [if_pos (rfl : k = k)]; have := h.1.1 k hk; omega
      · rw [if_neg c1, if_neg c2]
        by_cases c3 : i = j
        · subst c3; rw [if_pos rfl]; have s2 := sum i; omega
        · rw [if_neg c3]; omega
  · show (m i (oc_b i) + _) % 2 = 0
    have b := h.2.2.1 i hi
    rw [if_neg (fun z => oc_bn i z.symm), oc_bb]
    omega
  · show 2 * (m i j + _) ≤ (m i (oc_b i) + _) + (m (oc_b j) j + _)
    have b := h.2.2.2 i j hi hj
    rw [if_neg (show ¬ i = oc_b i from fun z => oc_bn i z.symm), if_neg (show ¬ oc_b j = j from oc_bn j), oc_bb]
    have s := sum j
    by_cases c : i = j
    · subst c; rw [if_pos rfl]; omega
    · rw [if_neg c]; omega
/-- one number more, or one that becomes any int -/
theorem a_free_T {n x : Nat} {m : oc_M} (hx : x < n) (hT : ∀ i j, i < 2 * n → j < 2 * n → i / 2 ≠ x → j / 2 ≠ x → (i = j → m i j = 0) ∧ m i j = m (oc_b j) (oc_b i) ∧ m i (oc_b i) % 2 = 0 ∧ 2 * m i j ≤ m i (oc_b i) + m (oc_b j) j ∧ 0 ≤ m i (oc_b i) + m (oc_b i) i ∧ ∀ k, k < 2 * n → k / 2 ≠ x → m i j ≤ m i k + m k j) : oc_T n (a_frm x m) := by
  have bh : ∀ i, oc_b i / 2 = i / 2 := oc_bh
  have ie : ∀ i j, i / 2 = j / 2 → j = i ∨ j = oc_b i := fun i j h => by unfold oc_b; split <;> omega
  have binj : ∀ i j, oc_b j = oc_b i ↔ i = j := fun i j => ⟨fun z => by rw [← oc_bb i, ← z, oc_bb], fun z => by rw [z]⟩
  have F1 : ∀ i j, i / 2 = x → j / 2 = x → a_frm x m i j = if i = j then 0 else 2 * gI (oc_b i) := fun i j h1 h2 => by unfold a_frm; rw [if_pos (Or.inl h1)]; split; rfl; rw [if_pos (by omega)]
  have F2 : ∀ i j, i / 2 = x → j / 2 ≠ x → a_frm x m i j = gI (oc_b i) + m (oc_b j) j / 2 := fun i j h1 h2 => by unfold a_frm; rw [if_pos (Or.inl h1), if_neg (fun z => h2 (by rw [← z]; exact h1)), if_neg (by omega), if_pos h1]
  have F3 : ∀ i j, i / 2 ≠ x → j / 2 = x → a_frm x m i j = gI j + m i (oc_b i) / 2 := fun i j h1 h2 => by unfold a_frm; rw [if_pos (Or.inr h2), if_neg (fun z => h1 (by rw [z]; exact h2)), if_neg (by omega), if_neg h1]
  have F4 : ∀ i j, i / 2 ≠ x → j / 2 ≠ x → a_frm x m i j = m i j := fun i j h1 h2 => by unfold a_frm; rw [if_neg (by omega)]
  have gb : ∀ v, gI (oc_b v) + gI v = 4294967295 := gI_b
  refine ⟨⟨fun i hi => ?_, fun i j hi hj => ?_⟩, fun k hk i j hi hj => ?_, fun i hi => ?_, fun i j hi hj => ?_⟩
  · by_cases c : i / 2 = x
    · rw [F1 i i c c, if_pos rfl]
    · rw [F4 i i c c]; exact (hT i i hi hi c c).1 rfl
  · by_cases c1 : i / 2 = x
    · by_cases c2 : j / 2 = x
      · rw [F1 i j c1 c2, F1 _ _ (by rw [bh]; exact c2) (by rw [bh]; exact c1), oc_bb]
        by_cases e : i = j
        · rw [if_pos e, if_pos ((binj i j).mpr e)]
        · rw [if_neg e, if_neg (fun z => e ((binj i j).mp z))]
          have : j = oc_b i := by rcases ie i j (by omega) with h | h; exact absurd h.symm e; exact h
          rw [this]
      · rw [F2 i j c1 c2, F3 _ _ (by rw [bh]; exact c2) (by rw [bh]; exact c1), oc_bb]
    · by_cases c2 : j / 2 = x
      · rw [F3 i j c1 c2, F2 _ _ (by rw [bh]; exact c2) (by rw [bh]; exact c1), oc_bb, oc_bb]
      · rw [F4 i j c1 c2, F4 _ _ (by rw [bh]; exact c2) (by rw [bh]; exact c1)]; exact (hT i j hi hj c1 c2).2.1
  · -- by way of k
    have hh : ∀ v, v < 2 * n → v / 2 ≠ x → m v (oc_b v) % 2 = 0 ∧ 0 ≤ m v (oc_b v) + m (oc_b v) v := fun v hv c => ⟨(hT v v hv hv c c).2.2.1, (hT v v hv hv c c).2.2.2.2.1⟩
    have gk := gb k
    have gi := gb i
    have gj := gb j
    have ri := gI_r i
    have rj := gI_r j
    have rk := gI_r k
    by_cases ck : k / 2 = x
    · by_cases ci : i / 2 = x
      · by_cases cj : j / 2 = x
        · rw [F1 i j ci cj, F1 i k ci ck, F1 k j ck cj]
          by_cases e1 : i = k
          · subst e1; rw [if_pos (rfl : i = i)]; omega
          · by_cases e2 : k = j
            · subst e2; rw [if_pos (rfl : k = k)]; omega
            · have a1 : k = oc_b i := by rcases ie i k (by omega) with h | h; exact absurd h.symm e1; exact h
              have a2 : j = oc_b k := by rcases ie k j (by omega) with h | h; exact absurd h.symm e2; exact h
              rw [a1, oc_bb] at a2
              rw [if_neg e1, if_neg e2, if_pos a2.symm]; omega
        · rw [F2 i j ci cj, F1 i k ci ck, F2 k j ck cj]
          by_cases e1 : i = k
          · subst e1; rw [if_pos rfl]; omega
          · have a1 : k = oc_b i := by rcases ie i k (by omega) with h | h; exact absurd h.symm e1; exact h
            rw [if_neg e1, a1, oc_bb]; omega
      · by_cases cj : j / 2 = x
        · rw [F3 i j ci cj, F3 i k ci ck, F1 k j ck cj]
          by_cases e2 : k = j
          · subst e2; rw [if_pos rfl]; omega
          · have a2 : j = oc_b k := by rcases ie k j (by omega) with h | h; exact absurd h.symm e2; exact h
            rw [if_neg e2, a2]; omega
        · rw [F4 i j ci cj, F3 i k ci ck, F2 k j ck cj]
          have a := (hT i j hi hj ci cj).2.2.2.1
          have b := hh i hi ci
          have c := hh j hj cj
          have c' := hh (oc_b j) (oc_bl hj) (by rw [bh]; exact cj)
          rw [oc_bb] at c'
          omega
    · have hk' := hh k hk ck
      by_cases ci : i / 2 = x
      · by_cases cj : j / 2 = x
        · rw [F1 i j ci cj, F2 i k ci ck, F3 k j ck cj]
          have hkb := hh (oc_b k) (oc_bl hk) (by rw [bh]; exact ck)
          rw [oc_bb] at hkb
          by_cases e1 : i = j
          · subst e1; rw [if_pos rfl]; omega
          · have a1 : j = oc_b i := by rcases ie i j (by omega) with h | h; exact absurd h.symm e1; exact h
            rw [if_neg e1, a1]; omega
        · rw [F2 i j ci cj, F2 i k ci ck, F4 k j ck cj]
          have hkb := hh (oc_b k) (oc_bl hk) (by rw [bh]; exact ck)
          have hjb := hh (oc_b j) (oc_bl hj) (by rw [bh]; exact cj)
          rw [oc_bb] at hkb hjb
          have t1 := (hT (oc_b j) j (oc_bl hj) hj (by rw [bh]; exact cj) cj).2.2.2.2.2 k hk ck
          have t2 := (hT (oc_b j) k (oc_bl hj) hk (by rw [bh]; exact cj) ck).2.2.2.2.2 (oc_b k) (oc_bl hk) (by rw [bh]; exact ck)
          have t3 := (hT k j hk hj ck cj).2.1
          omega
      · have hi' := hh i hi ci
        by_cases cj : j / 2 = x
        · rw [F3 i j ci cj, F4 i k ci ck, F3 k j ck cj]
          have t1 := (hT i (oc_b i) hi (oc_bl hi) ci (by rw [bh]; exact ci)).2.2.2.2.2 k hk ck
          have t2 := (hT k (oc_b i) hk (oc_bl hi) ck (by rw [bh]; exact ci)).2.2.2.2.2 (oc_b k) (oc_bl hk) (by rw [bh]; exact ck)
          have t3 := (hT i k hi hk ci ck).2.1
          omega
        · rw [F4 i j ci cj, F4 i k ci ck, F4 k j ck cj]
          exact (hT i j hi hj ci cj).2.2.2.2.2 k hk ck
  · by_cases c : i / 2 = x
    · rw [F1 i _ c (by rw [bh]; exact c), if_neg (fun z => oc_bn i z.symm)]; omega
    · rw [F4 i _ c (by rw [bh]; exact c)]; exact (hT i i hi hi c c).2.2.1
  · have gi := gb i
    have gj := gb j
    by_cases ci : i / 2 = x
    · rw [F1 i (oc_b i) ci (by rw [bh]; exact ci), if_neg (fun z => oc_bn i z.symm)]
      have ri := gI_r (oc_b i)
      by_cases cj : j / 2 = x
      · rw [F1 i j ci cj, F1 (oc_b j) j (by rw [bh]; exact cj) cj, if_neg (oc_bn j), oc_bb]
        have rj := gI_r j
        by_cases e : i = j
        · rw [if_pos e]; omega
        · rw [if_neg e]
          have : j = oc_b i := by rcases ie i j (by omega) with h | h; exact absurd h.symm e; exact h
          rw [this]; omega
      · rw [F2 i j ci cj, F4 (oc_b j) j (by rw [bh]; exact cj) cj]
        have hjb := (hT (oc_b j) (oc_b j) (oc_bl hj) (oc_bl hj) (by rw [bh]; exact cj) (by rw [bh]; exact cj)).2.2.1
        rw [oc_bb] at hjb
        omega
    · rw [F4 i (oc_b i) ci (by rw [bh]; exact ci)]
      have hi' := (hT i i hi hi ci ci).2.2.1
      by_cases cj : j / 2 = x
      · rw [F3 i j ci cj, F1 (oc_b j) j (by rw [bh]; exact cj) cj, if_neg (oc_bn j), oc_bb]; omega
      · rw [F4 i j ci cj, F4 (oc_b j) j (by rw [bh]; exact cj) cj]
        exact (hT i j hi hj ci cj).2.2.2.1
/-! frames: what a call leaves as it was -/
def fq (W : Nat → Prop) (h h' : mh_H) : Prop := mh_k h' = mh_k h ∧ mh_l h' = mh_l h ∧ mh_r h' = mh_r h ∧ mh_n h' = mh_n h ∧ mh_s h' = mh_s h ∧ ∀ b, ¬ W b → (∀ j, mh_i h' b j = mh_i h b j) ∧ ∀ j, mh_j h' b j = mh_j h b j
section FQ
variable {W V : Nat → Prop} {h h1 h2 : mh_H} {a k : Nat}
theorem fq_id : fq W h h := ⟨rfl, rfl, rfl, rfl, rfl, fun _ _ => ⟨fun _ => rfl, fun _ => rfl⟩⟩
theorem fq_t (x : fq W h h1) (y : fq W h1 h2) : fq W h h2 := by
  obtain ⟨x1, x2, x3, x4, x5, x6⟩ := x
  obtain ⟨y1, y2, y3, y4, y5, y6⟩ := y
  exact ⟨y1.trans x1, y2.trans x2, y3.trans x3, y4.trans x4, y5.trans x5, fun b hb => ⟨fun j => ((y6 b hb).1 j).trans ((x6 b hb).1 j), fun j => ((y6 b hb).2 j).trans ((x6 b hb).2 j)⟩⟩
theorem fq_w (x : fq W h h1) (w : ∀ b, W b → V b) : fq V h h1 := ⟨x.1, x.2.1, x.2.2.1, x.2.2.2.1, x.2.2.2.2.1, fun b hb => x.2.2.2.2.2 b (fun z => hb (w b z))⟩
theorem fq_J {f : Nat → Int64} (w : W a) : fq W h (mh_J h a f) := ⟨rfl, rfl, rfl, rfl, rfl, fun b hb => ⟨fun _ => rfl, fun j => by rw [hj_J, if_neg (show ¬ b = a from fun z => hb (z ▸ w))]⟩⟩
theorem fq_si {v : Int32} (w : W a) : fq W h (mh_si h a k v) := ⟨rfl, rfl, rfl, rfl, rfl, fun b hb => ⟨fun j => by rw [hi_si, if_neg (show ¬ (b = a ∧ j = k) from fun z => hb (z.1 ▸ w))], fun _ => rfl⟩⟩
theorem fq_cp {o sp dp n : Nat} (w : W a) : fq W h (mh_cp h o sp a dp n) := ⟨rfl, rfl, rfl, rfl, rfl, fun b hb => ⟨fun j => by rw [hi_cp, if_neg (show ¬ (b = a ∧ dp ≤ j ∧ j < dp + n) from fun z => hb (z.1 ▸ w))], fun j => by rw [hj_cp, if_neg (show ¬ (b = a ∧ dp ≤ j ∧ j < dp + n) from fun z => hb (z.1 ▸ w))]⟩⟩
theorem fq_mg {o ci : Nat} (x : fq W h h1) : mg h1 o ci ↔ mg h o ci := by unfold mg; rw [x.1, x.2.2.2.1]
end FQ
/-- the cells of a State, and the rows that are worked with -/
def sW (o R b : Nat) : Prop := b = o ∨ b = o + 1 ∨ b = o + 2 ∨ b = R
abbrev RM (h : mh_H) (o : Nat) (A : ab) : Prop := (so h o) ∧ (mh_i h o 0 = 0) ∧ (mh_i h o 1 = Int32.ofNat A.n) ∧ (A.n ≤ 12) ∧ (mh_i h o 2 = Int32.ofNat A.a) ∧ (A.a ≤ 6) ∧ (∀ i j, i < 2 * A.n → j < 2 * A.n → smx (mh_j h (o + 1)) i j = A.m i j) ∧ (∀ x, x < A.a → (mh_j h (o + 2) (2 * x)).toInt = A.lo x ∧ (mh_j h (o + 2) (2 * x + 1)).toInt = A.hi x)
theorem RM.s {h : mh_H} {o : Nat} {A : ab} (q : RM h o A) : so h o := q.1
theorem RM.z {h : mh_H} {o : Nat} {A : ab} (q : RM h o A) : mh_i h o 0 = 0 := q.2.1
theorem RM.n {h : mh_H} {o : Nat} {A : ab} (q : RM h o A) : mh_i h o 1 = Int32.ofNat A.n := q.2.2.1
theorem RM.n12 {h : mh_H} {o : Nat} {A : ab} (q : RM h o A) : A.n ≤ 12 := q.2.2.2.1
theorem RM.a {h : mh_H} {o : Nat} {A : ab} (q : RM h o A) : mh_i h o 2 = Int32.ofNat A.a := q.2.2.2.2.1
theorem RM.a6 {h : mh_H} {o : Nat} {A : ab} (q : RM h o A) : A.a ≤ 6 := q.2.2.2.2.2.1
theorem RM.m {h : mh_H} {o : Nat} {A : ab} (q : RM h o A) : ∀ i j, i < 2 * A.n → j < 2 * A.n → smx (mh_j h (o + 1)) i j = A.m i j := q.2.2.2.2.2.2.1
theorem RM.e {h : mh_H} {o : Nat} {A : ab} (q : RM h o A) : ∀ x, x < A.a → (mh_j h (o + 2) (2 * x)).toInt = A.lo x ∧ (mh_j h (o + 2) (2 * x + 1)).toInt = A.hi x := q.2.2.2.2.2.2.2
abbrev RN (h : mh_H) (o : Nat) : Prop := (so h o) ∧ (mh_i h o 0 = 1) ∧ (∃ n, n ≤ 12 ∧ mh_i h o 1 = Int32.ofNat n) ∧ (∃ a, a ≤ 6 ∧ mh_i h o 2 = Int32.ofNat a)
theorem RN.s {h : mh_H} {o : Nat} (q : RN h o) : so h o := q.1
theorem RN.z {h : mh_H} {o : Nat} (q : RN h o) : mh_i h o 0 = 1 := q.2.1
theorem RN.n {h : mh_H} {o : Nat} (q : RN h o) : ∃ n, n ≤ 12 ∧ mh_i h o 1 = Int32.ofNat n := q.2.2.1
theorem RN.a {h : mh_H} {o : Nat} (q : RN h o) : ∃ a, a ≤ 6 ∧ mh_i h o 2 = Int32.ofNat a := q.2.2.2
def RS (h : mh_H) (o : Nat) : Option ab → Prop
  | none => RN h o ∧ mh_i h o 5 = 0
  | some A => RM h o A ∧ mh_i h o 5 = 0
theorem RS_so {h : mh_H} {o : Nat} {A : Option ab} (x : RS h o A) : so h o := by cases A with | none => exact x.1.s | some A => exact x.1.s
theorem RS_5 {h : mh_H} {o : Nat} {A : Option ab} (x : RS h o A) : mh_i h o 5 = 0 := by cases A with | none => exact x.2 | some A => exact x.2
theorem so_fq {W : Nat → Prop} {h h1 : mh_H} {o : Nat} (x : fq W h h1) (s : so h o) : so h1 o := by
  obtain ⟨s1, s2, s3, s4, s5, s6, s7⟩ := s
  have k := x.1
  have l := x.2.1
  have r := x.2.2.1
  exact ⟨(fq_mg x).mpr s1, by rw [r]; exact s2, (fq_mg x).mpr s3, by rw [l]; exact s4, by rw [r]; exact s5, (fq_mg x).mpr s6, by rw [l]; exact s7⟩
/-- rows stand apart from States -/
abbrev rw_ok (h : mh_H) (R : Nat) : Prop := (mg h R 101) ∧ (mh_l h R = 48)
theorem rw_ok.k {h : mh_H} {R : Nat} (q : rw_ok h R) : mg h R 101 := q.1
theorem rw_ok.l {h : mh_H} {R : Nat} (q : rw_ok h R) : mh_l h R = 48 := q.2
theorem rw_ne {h : mh_H} {o R : Nat} (hs : so h o) (r : rw_ok h R) : R ≠ o ∧ R ≠ o + 1 ∧ R ≠ o + 2 := by
  obtain ⟨s1, s2, s3, s4, s5, s6, s7⟩ := hs
  have a0 := s1.1
  have k := r.k.1
  have l := r.l
  refine ⟨fun e => ?_, fun e => ?_, fun e => ?_⟩
  · rw [e] at k; omega
  · rw [e] at l; omega
  · rw [e] at l; omega
theorem rw_fq {W : Nat → Prop} {h h1 : mh_H} {R : Nat} (x : fq W h h1) (r : rw_ok h R) : rw_ok h1 R := ⟨(fq_mg x).mpr r.k, by rw [x.2.1]; exact r.l⟩
theorem sW_not {h : mh_H} {o p R : Nat} (hs : so h o) (hp : so h p) (hop : p ≠ o) (r : rw_ok h R) : ¬ sW o R p ∧ ¬ sW o R (p + 1) ∧ ¬ sW o R (p + 2) := by
  have NE := so_ne hs hp (fun e => hop e.symm)
  have q := rw_ne hp r
  unfold sW
  omega
theorem RM_fq {W : Nat → Prop} {h h1 : mh_H} {o : Nat} {A : ab} (x : fq W h h1) (w0 : ¬ W o) (w1 : ¬ W (o + 1)) (w2 : ¬ W (o + 2)) (r : RM h o A) : RM h1 o A := by
  obtain ⟨k, l, rr, nn, ss, f⟩ := x
  have x : fq W h h1 := ⟨k, l, rr, nn, ss, f⟩
  refine ⟨so_fq x r.s, ?_, ?_, r.n12, ?_, r.a6, fun i j hi hj => ?_, fun y hy => ?_⟩
  · rw [(f o w0).1]; exact r.z
  · rw [(f o w0).1]; exact r.n
  · rw [(f o w0).1]; exact r.a
  · have := r.m i j hi hj
    unfold smx at this ⊢
    rw [(f _ w1).2]; exact this
  · rw [(f _ w2).2, (f _ w2).2]; exact r.e y hy
theorem RN_fq {W : Nat → Prop} {h h1 : mh_H} {o : Nat} (x : fq W h h1) (w0 : ¬ W o) (r : RN h o) : RN h1 o := by
  have f := (x.2.2.2.2.2 o w0).1
  exact ⟨so_fq x r.s, by rw [f]; exact r.z, by rw [f]; exact r.n, by rw [f]; exact r.a⟩
theorem RS_fq {W : Nat → Prop} {h h1 : mh_H} {o : Nat} {A : Option ab} (x : fq W h h1) (w0 : ¬ W o) (w1 : ¬ W (o + 1)) (w2 : ¬ W (o + 2)) (r : RS h o A) : RS h1 o A := by
  have f := (x.2.2.2.2.2 o w0).1
  cases A with
  | none => exact ⟨RN_fq x w0 r.1, by rw [f]; exact r.2⟩
  | some A => exact ⟨RM_fq x w0 w1 w2 r.1, by rw [f]; exact r.2⟩
/-- another State stays -/
theorem RS_o {h h1 : mh_H} {o p R : Nat} {A : Option ab} (x : fq (sW o R) h h1) (hs : so h o) (r : rw_ok h R) (hop : p ≠ o) (q : RS h p A) : RS h1 p A := by
  obtain ⟨a, b, c⟩ := sW_not hs (RS_so q) hop r
  exact RS_fq x a b c q
/-! the State's operations -/
/-- each place of the half that is kept is that of some i and j -/
theorem sc_at_all : ∀ n, n ≤ 12 → ∀ k, k < sc_n n → sc (sc_i k) (sc_j k) = k ∧ sc_i k < 2 * n ∧ sc_j k < 2 * n := by decide +kernel
theorem sc_at {n k : Nat} (hn : n ≤ 12) (hk : k < sc_n n) : ∃ i j, i < 2 * n ∧ j < 2 * n ∧ sc i j = k := ⟨sc_i k, sc_j k, (sc_at_all n hn k hk).2.1, (sc_at_all n hn k hk).2.2, (sc_at_all n hn k hk).1⟩
section SL
variable {d : Nat} {h : mh_H} {o p R : Nat} {A B c : ab}
theorem l_143 (R : Nat) (hs : so h o) {A : ab} (hn : A.n = 0) (ha : A.a = 0) : ∃ h', fq (sW o R) h h' ∧ RS h' o (some A) ∧ ∀ Q, mcall d 143 [.ref o] h Q = Q none h' := by
  refine ⟨_, ?f, ?r, fun Q => c_143 hs.1⟩
  case f => exact fq_t (fq_t (fq_t (fq_si (Or.inl rfl)) (fq_si (Or.inl rfl))) (fq_si (Or.inl rfl))) (fq_si (Or.inl rfl))
  case r =>
    refine ⟨⟨hs, ?_, ?_, by omega, ?_, by omega, fun i j hi => by omega, fun x hx => by omega⟩, ?_⟩
    all_goals simp [hi_si, hn, ha] <;> rfl
theorem l_145 (R : Nat) {n a : Nat} (r : RS h o (some A)) (hn : n ≤ A.n) (ha : a ≤ A.a) : ∃ h', fq (sW o R) h h' ∧ RS h' o (some (a_keep n a A)) ∧ ∀ Q, mcall d 145 [.ref o, .int (Int32.ofNat n), .int (Int32.ofNat a)] h Q = Q none h' := by
  obtain ⟨r, r5⟩ := r
  have := r.n12
  have := r.a6
  refine ⟨_, ?f, ?r, fun Q => c_145 r.s.1⟩
  case f => exact fq_t (fq_si (Or.inl rfl)) (fq_si (Or.inl rfl))
  case r =>
    refine ⟨⟨r.s, ?_, ?_, ?_, ?_, ?_, fun i j hi hj => ?_, fun x hx => ?_⟩, ?_⟩
    · simp [hi_si, r.z]
    · simp [hi_si, a_keep, ab_n, ab_a]
    · show n ≤ 12; omega
    · simp [hi_si, a_keep, ab_n, ab_a]
    · show a ≤ 6; omega
    · exact r.m i j (by simp only [a_keep, ab_n] at hi; omega) (by simp only [a_keep, ab_n] at hj; omega)
    · exact r.e x (by simp only [a_keep, ab_a] at hx; omega)
    · simp [hi_si, r5]
theorem l_145n (R : Nat) {n a : Nat} (r : RS h o none) (hn : n ≤ 12) (ha : a ≤ 6) : ∃ h', fq (sW o R) h h' ∧ RS h' o none ∧ ∀ Q, mcall d 145 [.ref o, .int (Int32.ofNat n), .int (Int32.ofNat a)] h Q = Q none h' := by
  obtain ⟨r, r5⟩ := r
  refine ⟨_, ?f, ?r, fun Q => c_145 r.s.1⟩
  case f => exact fq_t (fq_si (Or.inl rfl)) (fq_si (Or.inl rfl))
  case r =>
    refine ⟨⟨r.s, ?_, ⟨n, hn, ?_⟩, ⟨a, ha, ?_⟩⟩, ?_⟩
    · simp [hi_si, r.z]
    · simp [hi_si]
    · simp [hi_si]
    · simp [hi_si, r5]
theorem l_146 (r : RM h o A) (hT : oc_T A.n A.m) {v w : Nat} (hv : v < 2 * A.n) (hw : w < 2 * A.n) : ∃ x : Int64, x.toInt = (if v = w then A.m (oc_b w) v / 2 else A.m (oc_b w) v) ∧ ∀ Q, mcall d 146 [.ref o, .int (Int32.ofNat v), .int (Int32.ofNat w)] h Q = Q (some (.long x)) h := by
  have := r.n12
  refine ⟨_, ?_, fun Q => c_146 r.s (by omega) (by omega)⟩
  have e : (sb h o (oc_b w) v).toInt = A.m (oc_b w) v := r.m _ _ (oc_bl hw) hv
  by_cases c : v = w
  · subst c
    rw [if_pos rfl, if_pos rfl, half_int, e]
    rw [e]
    have := hT.2.2.1 (oc_b v) (oc_bl hv)
    rw [oc_bb] at this; exact this
  · rw [if_neg c, if_neg c, e]
theorem l_154 (R : Nat) {rr : Nat} (r : RS h o (some A)) (ha : A.a < 6) : ∃ h', fq (sW o R) h h' ∧ RS h' o (some (a_arr rr A)) ∧ ∀ Q, mcall d 154 [.ref o] h Q = Q none h' := by
  obtain ⟨r, r5⟩ := r
  refine ⟨_, ?f, ?r, fun Q => c_154 r.s r.a ha⟩
  case f => exact fq_t (fq_J (Or.inr (Or.inr (Or.inl rfl)))) (fq_si (Or.inl rfl))
  case r =>
    refine ⟨⟨r.s, ?_, ?_, r.n12, ?_, ?_, fun i j hi hj => ?_, fun x hx => ?_⟩, ?_⟩
    · simp [hi_si, hi_J, r.z]
    · simp [hi_si, hi_J, r.n, a_arr, ab_n]
    · simp [hi_si, hi_J, a_arr, ab_a]
    · show A.a + 1 ≤ 6; omega
    · have := r.m i j hi hj
      unfold smx at this ⊢
      rw [hj_si, hj_J, if_neg (by omega)]; exact this
    · have hx : x < A.a + 1 := hx
      rw [hj_si, hj_J, hj_J, if_pos rfl, if_pos rfl]
      by_cases c : x = A.a
      · subst c
        simp [a_arr, ab_lo, ab_hi]
      · rw [if_neg (by omega), if_neg (by omega), if_neg (by omega), if_neg (by omega)]
        simp only [a_arr, ab_lo, ab_hi]
        rw [if_neg c, if_neg c]
        exact r.e x (by omega)
    · simp [hi_si, hi_J, r5]
/-- a State is set to nothing -/
theorem RN_of (r : RM h o A) : RN (mh_si h o 0 1) o := ⟨r.s, by simp [hi_si], ⟨A.n, r.n12, by simp [hi_si, r.n]⟩, ⟨A.a, r.a6, by simp [hi_si, r.a]⟩⟩
theorem cp2_at {X : mh_H} {N M y : Nat} (ne : ¬ p + 2 = o + 1) (hy : y < M) : mh_j (mh_cp (mh_cp X (p + 1) 0 (o + 1) 0 N) (p + 2) 0 (o + 2) 0 M) (o + 2) y = mh_j X (p + 2) y := by
  rw [hj_cp, if_pos ⟨rfl, Nat.zero_le _, by omega⟩, hj_cp, if_neg (fun z => ne z.1), Nat.zero_add, Nat.sub_zero]
/-- copy -/
theorem l_144 (R : Nat) {A : Option ab} (hs : so h o) (r : RS h p A) (hop : o ≠ p) : ∃ h', fq (sW o R) h h' ∧ RS h' o A ∧ ∀ Q, mcall (d + 1) 144 [.ref o, .ref p] h Q = Q none h' := by
  obtain ⟨n1, n2, n3, n4, n5, n6, n7, n8, n9⟩ := so_ne hs (RS_so r) hop
  cases A with
  | none =>
    obtain ⟨r, r5⟩ := r
    obtain ⟨n, hn, en⟩ := r.n
    obtain ⟨a, ha, ea⟩ := r.a
    refine ⟨_, ?f, ?r, fun Q => c_144 hs r.s hop en hn ea ha (Or.inr r.z)⟩
    case f =>
      rw [if_neg (by rw [r.z]; decide)]
      exact fq_t (fq_t (fq_t (fq_si (Or.inl rfl)) (fq_si (Or.inl rfl))) (fq_si (Or.inl rfl))) (fq_si (Or.inl rfl))
    case r =>
      rw [if_neg (by rw [r.z]; decide)]
      refine ⟨⟨hs, ?_, ⟨n, hn, ?_⟩, ⟨a, ha, ?_⟩⟩, ?_⟩
      · simp [hi_si, r.z]
      · simp [hi_si, en]
      · simp [hi_si, ea]
      · simp [hi_si, r5]
  | some A =>
    obtain ⟨r, r5⟩ := r
    have hn := r.n12
    have ha := r.a6
    refine ⟨_, ?f, ?r, fun Q => c_144 hs r.s hop r.n r.n12 r.a r.a6 (Or.inl r.z)⟩
    case f =>
      rw [if_pos r.z]
      exact fq_t (fq_t (fq_t (fq_t (fq_t (fq_si (Or.inl rfl)) (fq_si (Or.inl rfl))) (fq_si (Or.inl rfl))) (fq_si (Or.inl rfl))) (fq_cp (Or.inr (Or.inl rfl)))) (fq_cp (Or.inr (Or.inr (Or.inl rfl))))
    case r =>
      rw [if_pos r.z]
      refine ⟨⟨hs, ?_, ?_, r.n12, ?_, r.a6, fun i j hi hj => ?_, fun x hx => ?_⟩, ?_⟩
      · simp [hi_si, hi_cp, r.z]
      · simp [hi_si, hi_cp, r.n]
      · simp [hi_si, hi_cp, r.a]
      · have e := r.m i j hi hj
        have l := sc_n_all A.n hn i (by omega) j (by omega) hi hj
        unfold smx at e ⊢
        rw [hj_cp, if_neg (by omega), hj_cp, if_pos (by omega)]
        simp only [hj_si, Nat.zero_add, Nat.sub_zero]
        exact e
      · have e := r.e x hx
        rw [cp2_at n5 (by omega), cp2_at n5 (by omega)]
        exact e
      · simp [hi_si, hi_cp, r5]
/-- within -/
theorem l_149n {B : Option ab} (r : RS h o none) (q : RS h p B) : ∀ Q, mcall (d + 1) 149 [.ref o, .ref p] h Q = Q (some (.int 1)) h := by
  intro Q
  have s1 := r.1.s.1
  have z := r.1.z
  have e : ((1 : Int32) = 0) = False := by decide
  simp only [s_149_0, s_149_1, s_149_4, s_149_7, s_149_8, s_149_11, s_149_14, s_149_15, s_149_18, s_149_19, s_149_20, s_149_21, s_149_22, s_149_23, s_149_26, s_149_29, s_149_30, s_149_33, s_149_34, s_149_35, s_149_36, s_149_39, s_149_40, s_149_41, s_149_42, s_149_45, s_149_46, s_149_47, s_149_50, s_149_53, s_149_54, s_149_55, s_149_56, s_149_57, s_149_60, s_149_63, s_149_64, s_149_67, s_149_68, s_149_69, s_149_70, s_149_71, s_149_72, s_149_75, s_149_76, s_149_77, s_149_78, s_149_79, s_149_80, s_149_83, s_149_84, s_149_87, s_149_88, s_149_89, s_149_90, s_149_91, s_149_92, s_149_93, s_149_94, s_149_97, s_149_98, s_149_99, s_149_100, s_149_101, s_149_102, s_149_103, s_149_104, s_149_107, s_149_108, s_149_109, s_149_112, s_149_115, s_149_116, e_149, mv_i_1, mv_l_1, mv_a_1, mv_a_2, mv_a_3, mk2_n, mk2_i, mk2_l, mk2_a, mk2_u, mk2_x, mB_T, mB_F, mS_cons, mS_nil, mSB_T, mSB_F, mca_nil, mca_i, mca_l, mca_r, mca_u, mca_x, mcat_i, mcat_l, mcat_r, mcat_u, mcat_x, mK_some, mK_none, va_rf_s, va_rf_n, lgc_eq, lgc_lt, lgc_gt, lgc_ge, lgc_le, mrd_104, mrd_105, mrd_106, mrd_107, true_and, and_true, and_self, false_and, and_false, true_or, or_true, false_or, or_false, not_true_eq_false, not_false_eq_true, mgb, mga, mgr, mN, reduceCtorEq, ↓reduceIte, eq_self, ge_iff_le, gt_iff_lt, s1, z, e]
theorem l_149m (r : RS h o (some A)) (q : RS h p none) : ∀ Q, mcall (d + 1) 149 [.ref o, .ref p] h Q = Q (some (.int 0)) h := by
  intro Q
  have s1 := r.1.s.1
  have z := r.1.z
  have s2 := q.1.s.1
  have z2 := q.1.z
  have e : ((1 : Int32) = 0) = False := by decide
  simp only [s_149_0, s_149_1, s_149_4, s_149_7, s_149_8, s_149_11, s_149_14, s_149_15, s_149_18, s_149_19, s_149_20, s_149_21, s_149_22, s_149_23, s_149_26, s_149_29, s_149_30, s_149_33, s_149_34, s_149_35, s_149_36, s_149_39, s_149_40, s_149_41, s_149_42, s_149_45, s_149_46, s_149_47, s_149_50, s_149_53, s_149_54, s_149_55, s_149_56, s_149_57, s_149_60, s_149_63, s_149_64, s_149_67, s_149_68, s_149_69, s_149_70, s_149_71, s_149_72, s_149_75, s_149_76, s_149_77, s_149_78, s_149_79, s_149_80, s_149_83, s_149_84, s_149_87, s_149_88, s_149_89, s_149_90, s_149_91, s_149_92, s_149_93, s_149_94, s_149_97, s_149_98, s_149_99, s_149_100, s_149_101, s_149_102, s_149_103, s_149_104, s_149_107, s_149_108, s_149_109, s_149_112, s_149_115, s_149_116, e_149, mv_i_1, mv_l_1, mv_a_1, mv_a_2, mv_a_3, mk2_n, mk2_i, mk2_l, mk2_a, mk2_u, mk2_x, mB_T, mB_F, mS_cons, mS_nil, mSB_T, mSB_F, mca_nil, mca_i, mca_l, mca_r, mca_u, mca_x, mcat_i, mcat_l, mcat_r, mcat_u, mcat_x, mK_some, mK_none, va_rf_s, va_rf_n, lgc_eq, lgc_lt, lgc_gt, lgc_ge, lgc_le, mrd_104, mrd_105, mrd_106, mrd_107, true_and, and_true, and_self, false_and, and_false, true_or, or_true, false_or, or_false, not_true_eq_false, not_false_eq_true, mgb, mga, mgr, mN, reduceCtorEq, ↓reduceIte, eq_self, ge_iff_le, gt_iff_lt, s1, z, s2, z2, e]
theorem l_149 (r : RS h o (some A)) (q : RS h p (some B)) (hn : A.n = B.n) (ha : A.a = B.a) : ∃ x : Int32, (x = 0 ∨ x = 1) ∧ (x = 1 ↔ a_le A B) ∧ ∀ Q, mcall (d + 1) 149 [.ref o, .ref p] h Q = Q (some (.int x)) h := by
  obtain ⟨r, r5⟩ := r
  obtain ⟨q, q5⟩ := q
  have n12 := r.n12
  have E := fun Q => c_149 (d := d) (Q := Q) r.s q.s r.n r.n12 r.a r.a6 r.z q.z
  by_cases c1 : ∃ k, 0 ≤ k ∧ k < sc_n A.n ∧ mh_j h (p + 1) k < mh_j h (o + 1) k
  · refine ⟨0, Or.inl rfl, ⟨fun z => absurd z (by decide), fun z => ?_⟩, fun Q => by rw [E, mI_T c1]⟩
    obtain ⟨k, -, hk, hl⟩ := c1
    exfalso
    obtain ⟨i, j, hi, hj, e⟩ := sc_at n12 hk
    have a := z.1 i j hi hj
    rw [← r.m i j hi hj, ← q.m i j (by omega) (by omega)] at a
    unfold smx at a
    rw [e] at a
    rw [Int64.lt_iff_toInt_lt] at hl
    omega
  · by_cases c2 : ∃ k, 0 ≤ k ∧ k < A.a ∧ (mh_j h (o + 2) (2 * k) < mh_j h (p + 2) (2 * k) ∨ mh_j h (p + 2) (2 * k + 1) < mh_j h (o + 2) (2 * k + 1))
    · refine ⟨0, Or.inl rfl, ⟨fun z => absurd z (by decide), fun z => ?_⟩, fun Q => by rw [E, mI_F c1, mI_T c2]⟩
      obtain ⟨k, -, hk, hl⟩ := c2
      exfalso
      have a := z.2 k hk
      rw [← (r.e k hk).1, ← (r.e k hk).2, ← (q.e k (by omega)).1, ← (q.e k (by omega)).2] at a
      rcases hl with hl | hl <;> rw [Int64.lt_iff_toInt_lt] at hl <;> omega
    · refine ⟨1, Or.inr rfl, ⟨fun _ => ⟨fun i j hi hj => ?_, fun x hx => ?_⟩, fun _ => rfl⟩, fun Q => by rw [E, mI_F c1, mI_F c2]⟩
      · rw [← r.m i j hi hj, ← q.m i j (by omega) (by omega)]
        have l := sc_n_all A.n n12 i (by omega) j (by omega) hi hj
        have : ¬ mh_j h (p + 1) (sc i j) < mh_j h (o + 1) (sc i j) := fun z => c1 ⟨sc i j, Nat.zero_le _, l, z⟩
        rw [Int64.lt_iff_toInt_lt] at this
        unfold smx
        omega
      · rw [← (r.e x hx).1, ← (r.e x hx).2, ← (q.e x (by omega)).1, ← (q.e x (by omega)).2]
        have : ¬ (mh_j h (o + 2) (2 * x) < mh_j h (p + 2) (2 * x) ∨ mh_j h (p + 2) (2 * x + 1) < mh_j h (o + 2) (2 * x + 1)) := fun z => c2 ⟨x, Nat.zero_le _, hx, z⟩
        rw [Int64.lt_iff_toInt_lt, Int64.lt_iff_toInt_lt] at this
        omega
end SL
