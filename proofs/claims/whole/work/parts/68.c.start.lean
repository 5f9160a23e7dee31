set_option maxRecDepth 100000
/-! THE START: the class -/
set_option maxRecDepth 100000 in
theorem e_cfK : (cfK.all fun t => decide (mh_k mp_hE t.1 = t.2.1) && (decide (t.1 < 2644) && decide (mh_l mp_hE t.1 = t.2.2))) = true := by decide +kernel
set_option maxRecDepth 100000 in
theorem e_cfR : (cfR.all fun t => decide (mh_r mp_hE t.1 t.2.1 = some t.2.2)) = true := by decide +kernel
theorem en_E : mh_n mp_hE = 2644 := mp_n
theorem CF_E : CF mp_hE := by
  refine ⟨fun t ht => ?_, fun t ht => ?_⟩
  · have w := List.all_eq_true.mp e_cfK t ht
    simp only [Bool.and_eq_true, decide_eq_true_eq] at w
    exact ⟨⟨w.1, by rw [en_E]; exact w.2.1⟩, w.2.2⟩
  · exact of_decide_eq_true (List.all_eq_true.mp e_cfR t ht)
def plk (b j : Nat) : Bool := match mh_r mp_hA b j with
  | none => true
  | some o => (decide (b = 54) && (decide (j = 0) && decide (o = 75))) || (decide (b = 73) && (decide (j = 0) && decide (o = 78)))
def plT : List (Nat × Nat) := [(51, 122), (54, 250), (61, 250), (62, 250), (63, 250), (64, 250), (73, 250)]
set_option maxRecDepth 100000 in
theorem c_pl : (plT.all fun t => (decide (mh_k mp_hA t.1 = 104) && decide (mh_l mp_hA t.1 = t.2)) && (List.range t.2).all fun j => plk t.1 j) = true := by decide +kernel
set_option maxRecDepth 100000 in
theorem e_c1 : (mh_r mp_hE 34 2 = some 42 ∧ mh_r mp_hE 34 3 = some 45 ∧ mh_r mp_hE 34 4 = some 48 ∧ mh_r mp_hE 53 6 = some 56 ∧ mh_r mp_hE 54 0 = some 75 ∧ mh_r mp_hE 73 0 = some 78) ∧ (mh_r mp_hE 2 1 = some 9 ∧ mh_r mp_hE 20 0 = some 33 ∧ mh_r mp_hE 35 9 = some 39 ∧ mh_r mp_hE 35 10 = some 40 ∧ mh_r mp_hE 0 13 = some 74) := by decide +kernel
set_option maxRecDepth 100000 in
theorem e_c2 : (mh_k mp_hE 39 = 101 ∧ mh_k mp_hE 40 = 101 ∧ mh_l mp_hE 39 = 0 ∧ mh_l mp_hE 40 = 0) ∧ (mh_k mp_hE 33 = 9 ∧ mh_k mp_hE 74 = 102 ∧ mh_l mp_hE 74 = 64) := by decide +kernel
set_option maxRecDepth 100000 in
theorem e_c3 : (mh_i mp_hE 33 0 = 0 ∧ mh_i mp_hE 33 2 = 0 ∧ mh_i mp_hE 33 3 = 0 ∧ mh_i mp_hE 33 4 = 0) ∧ (mh_i mp_hE 2 2 = 1 ∧ mh_i mp_hE 21 0 = 0 ∧ mh_i mp_hE 22 0 = 0) ∧ (mh_i mp_hE 0 1 = 0 ∧ mh_i mp_hE 0 7 = 0 ∧ mh_i mp_hE 0 10 = 0 ∧ mh_i mp_hE 0 11 = 0 ∧ mh_i mp_hE 0 14 = 0) ∧ (mh_i mp_hE 53 3 = 0 ∧ mh_i mp_hE 55 0 = 0 ∧ mh_i mp_hE 9 5 = 0) ∧ (mh_i mp_hE 67 2 = 0 ∧ mh_i mp_hE 67 3 = 0 ∧ mh_i mp_hE 67 4 = 0 ∧ mh_i mp_hE 67 5 = 0 ∧ mh_i mp_hE 67 9 = 0) := by decide +kernel
set_option maxRecDepth 100000 in
theorem e_so : ([42, 45, 48, 56, 75, 78].all fun o => (decide (mh_k mp_hE o = 8) && (decide (mh_r mp_hE o 3 = some (o + 1)) && (decide (mh_k mp_hE (o + 1) = 101) && decide (mh_l mp_hE (o + 1) = 312)))) && (decide (mh_r mp_hE o 4 = some (o + 2)) && (decide (mh_k mp_hE (o + 2) = 101) && decide (mh_l mp_hE (o + 2) = 12)))) = true := by decide +kernel
set_option maxRecDepth 100000 in
theorem e_st : ([75, 78].all fun o => (decide (mh_i mp_hE o 0 = 0) && decide (mh_i mp_hE o 1 = 0)) && (decide (mh_i mp_hE o 2 = 0) && decide (mh_i mp_hE o 5 = 0))) = true := by decide +kernel
set_option maxRecDepth 100000 in
theorem e_sq : (mh_r mp_hE 9 0 = some 10 ∧ mh_r mp_hE 9 2 = some 11 ∧ mh_r mp_hE 9 3 = some 12 ∧ mh_r mp_hE 9 4 = some 13 ∧ mh_r mp_hE 9 6 = some 14 ∧ mh_r mp_hE 9 7 = some 15) ∧ (mh_k mp_hE 9 = 7 ∧ mh_k mp_hE 10 = 100 ∧ mh_k mp_hE 11 = 100 ∧ mh_k mp_hE 12 = 100 ∧ mh_k mp_hE 13 = 100 ∧ mh_k mp_hE 14 = 100 ∧ mh_k mp_hE 15 = 100) ∧ (mh_l mp_hE 10 = 3 ∧ mh_l mp_hE 11 = 1 ∧ mh_l mp_hE 12 = 1 ∧ mh_l mp_hE 13 = 1 ∧ mh_l mp_hE 14 = 2 ∧ mh_l mp_hE 15 = 2) := by decide +kernel
theorem so_E {o : Nat} (m : o ∈ [42, 45, 48, 56, 75, 78]) : so mp_hE o := by
  have w := List.all_eq_true.mp e_so o m
  simp only [Bool.and_eq_true, decide_eq_true_eq] at w
  have lt : o + 2 < 2644 := by
    simp only [List.mem_cons, List.not_mem_nil, or_false] at m
    omega
  obtain ⟨⟨a1, a2, a3, a4⟩, a5, a6, a7⟩ := w
  exact ⟨⟨a1, by rw [en_E]; omega⟩, a2, ⟨a3, by rw [en_E]; omega⟩, a4, a5, ⟨a6, by rw [en_E]; omega⟩, a7⟩
/-- where States are held -/
theorem pl_E {b j o : Nat} (p : isPl b j) (e : mh_r mp_hE b j = some o) : (b = 34 ∧ j = 2 ∧ o = 42) ∨ (b = 34 ∧ j = 3 ∧ o = 45) ∨ (b = 34 ∧ j = 4 ∧ o = 48) ∨ (b = 53 ∧ j = 6 ∧ o = 56) ∨ (b = 54 ∧ j = 0 ∧ o = 75) ∨ (b = 73 ∧ j = 0 ∧ o = 78) := by
  obtain ⟨⟨r2, r3, r4, r6, -, -⟩, -⟩ := e_c1
  have row : ∀ t, t ∈ plT → b = t.1 → (b = 54 ∧ j = 0 ∧ o = 75) ∨ (b = 73 ∧ j = 0 ∧ o = 78) := fun t ht eb => by
    have lt : t.1 < 81 := by
      have q : ∀ t ∈ plT, t.1 < 81 := by decide
      exact q t ht
    have w := List.all_eq_true.mp c_pl t ht
    rw [Bool.and_eq_true, Bool.and_eq_true, decide_eq_true_eq, decide_eq_true_eq] at w
    have e' := e
    rw [(sx_E.2 b (by omega)).2.2] at e'
    obtain ⟨-, a2⟩ := iyf_A b j o e'
    have jl : j < t.2 := by
      unfold iyk at a2
      rw [eb, w.1.1, w.1.2] at a2
      omega
    have c := List.all_eq_true.mp w.2 j (List.mem_range.mpr jl)
    have c' : plk t.1 j = ((decide (t.1 = 54) && (decide (j = 0) && decide (o = 75))) || (decide (t.1 = 73) && (decide (j = 0) && decide (o = 78)))) := by
      unfold plk
      rw [← eb, e']
    rw [c'] at c
    simp only [Bool.or_eq_true, Bool.and_eq_true, decide_eq_true_eq] at c
    rw [eb]
    exact c
  unfold isPl at p
  rcases p with ⟨p1, p2 | p2 | p2⟩ | p1 | ⟨p1, p2⟩ | p1 | p1 | p1 | p1 | p1 | p1
  · rw [p1, p2, r2] at e
    cases e
    exact Or.inl ⟨p1, p2, rfl⟩
  · rw [p1, p2, r3] at e
    cases e
    exact Or.inr (Or.inl ⟨p1, p2, rfl⟩)
  · rw [p1, p2, r4] at e
    cases e
    exact Or.inr (Or.inr (Or.inl ⟨p1, p2, rfl⟩))
  · exact Or.inr (Or.inr (Or.inr (Or.inr (row (51, 122) (by decide) p1))))
  · rw [p1, p2, r6] at e
    cases e
    exact Or.inr (Or.inr (Or.inr (Or.inl ⟨p1, p2, rfl⟩)))
  · exact Or.inr (Or.inr (Or.inr (Or.inr (row (54, 250) (by decide) p1))))
  · exact Or.inr (Or.inr (Or.inr (Or.inr (row (61, 250) (by decide) p1))))
  · exact Or.inr (Or.inr (Or.inr (Or.inr (row (62, 250) (by decide) p1))))
  · exact Or.inr (Or.inr (Or.inr (Or.inr (row (63, 250) (by decide) p1))))
  · exact Or.inr (Or.inr (Or.inr (Or.inr (row (64, 250) (by decide) p1))))
  · exact Or.inr (Or.inr (Or.inr (Or.inr (row (73, 250) (by decide) p1))))
theorem CS_E : CS mp_hE := by
  refine ⟨fun b j o p e => ?_, fun b j b' j' o p p' e e' => ?_⟩
  · have w := pl_E p e
    have m : o ∈ [42, 45, 48, 56, 75, 78] := by
      simp only [List.mem_cons, List.not_mem_nil, or_false]
      omega
    exact ⟨so_E m, by unfold cAd; omega⟩
  · have w := pl_E p e
    have w' := pl_E p' e'
    omega
theorem RS_E {o : Nat} (m : o ∈ [75, 78]) : RS mp_hE o (some A00) := by
  have w := List.all_eq_true.mp e_st o m
  simp only [Bool.and_eq_true, decide_eq_true_eq] at w
  have m' : o ∈ [42, 45, 48, 56, 75, 78] := by
    simp only [List.mem_cons, List.not_mem_nil, or_false] at m ⊢
    omega
  obtain ⟨⟨a1, a2⟩, a3, a4⟩ := w
  exact ⟨⟨so_E m', a1, a2, Nat.zero_le _, a3, Nat.zero_le _, fun i j hi => absurd hi (Nat.not_lt_zero _), fun x hx => absurd hx (Nat.not_lt_zero _)⟩, a4⟩
