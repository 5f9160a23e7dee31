set_option maxRecDepth 100000
/-! THE START: the heap before the reference is made -/
def hAk (b j : Nat) : Bool := match mh_r mp_hA b j with
  | none => true
  | some o => decide (b < 81) && decide (o < 81)
def hAn (b : Nat) : Nat := if mh_k mp_hA b < 100 then mt_nf (mh_k mp_hA b) else if 104 ≤ mh_k mp_hA b ∧ mh_k mp_hA b < 107 then mh_l mp_hA b else 0
set_option maxRecDepth 100000 in
theorem hA_n : mh_n mp_hA = 82 := by decide +kernel
set_option maxRecDepth 100000 in
theorem hA_c : ((List.range 82).all fun b => (List.range (hAn b)).all fun j => hAk b j) = true := by decide +kernel
theorem hA_x {b j o : Nat} (e : mh_r mp_hA b j = some o) : b < 81 ∧ o < 81 := by
  obtain ⟨a1, a2⟩ := iyf_A b j o e
  rw [hA_n] at a1
  have c := List.all_eq_true.mp (List.all_eq_true.mp hA_c b (List.mem_range.mpr a1)) j (List.mem_range.mpr (by
    unfold hAn
    rcases a2 with z | z
    · rw [if_pos z.1]
      exact z.2
    · rw [if_neg (by omega), if_pos ⟨z.1, z.2.1⟩]
      exact z.2.2))
  have c' : hAk b j = (decide (b < 81) && decide (o < 81)) := by
    unfold hAk
    rw [e]
  rw [c', Bool.and_eq_true, decide_eq_true_eq, decide_eq_true_eq] at c
  exact c
theorem dx_A : dxC mp_hA := fun b j o e => by
  rw [hA_n]
  have := hA_x e
  omega
theorem tx_81 : ∀ v, v ∈ ([.ref 81] : List Value) → v = .ref 81 := fun v hv => by
  rcases List.mem_cons.mp hv with z | z
  · exact z
  · cases z
theorem dx_E : dxC mp_hE := cal_dx dx_A (fun v hv => by
  rw [tx_81 v hv]
  show 81 < mh_n mp_hA
  rw [hA_n]
  decide) mp_ca
/-- both sides are closed; the class's is as it was -/
theorem sx_E : (∀ b j o, 81 ≤ b → mh_r mp_hE b j = some o → 81 ≤ o) ∧ ∀ b, b < 81 → mh_i mp_hE b = mh_i mp_hA b ∧ mh_j mp_hE b = mh_j mp_hA b ∧ mh_r mp_hE b = mh_r mp_hA b := by
  obtain ⟨c1, ⟨u1, u2, u3, u4⟩, -⟩ := cal_sx (S := fun b => 81 ≤ b) ⟨fun b hb => by
    rw [hA_n] at hb
    omega, fun b j o hb e => by
    have := (hA_x e).1
    omega⟩ (fun v hv => by
    rw [tx_81 v hv]
    show 81 ≤ 81
    decide) mp_ca
  exact ⟨fun b j o hb e => c1.2 b j o hb e, fun b hb => (u4 b (by omega)).2.2⟩
theorem SD_E : SDs (fun b => 81 ≤ b ∧ b < 2644) mp_hE := by
  have en : mh_n mp_hE = 2644 := mp_n
  obtain ⟨s1, s2⟩ := sx_E
  refine SDs.of ⟨dx_E, mp_mbf, fun b hb => by rw [en]; exact hb.2, fun b j o hb e => ?_, fun b j o hb e => ?_, fun b hb z => by omega, fun b h1 h2 => ⟨h1, h2⟩⟩
  · have d := dx_E b j o e
    rw [en] at d
    have b81 : b < 81 := by omega
    rw [(s2 b b81).2.2] at e
    have := (hA_x e).2
    omega
  · have d := dx_E b j o e
    rw [en] at d
    exact ⟨s1 b j o hb.1 e, d.2⟩
