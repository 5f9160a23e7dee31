set_option maxRecDepth 100000
/-! relations: what holds, what fails -/
noncomputable def r_h (A : ab) (ps : List pa) (w : Nat) : Option ab :=
  if w = 0 then a_meet A ps false (-1) (some A)
  else if w = 1 then a_meet A ps false 0 (some A)
  else if w = 2 then a_meet A ps true (-1) (some A)
  else if w = 3 then a_meet A ps true 0 (some A)
  else if w = 4 then a_meet A ps true 0 (a_meet A ps false 0 (some A))
  else a_differ A ps (some A)
def r_op (w : Nat) : Nat := if w = 0 then 3 else if w = 1 then 2 else if w = 2 then 1 else if w = 3 then 0 else if w = 4 then 5 else 4
noncomputable def o_cl : Option ab → Option ab
  | none => none
  | some M => a_cl M
/-- what is known where the relation holds, where it fails; the alarms -/
noncomputable def a_rel (en : Int → Nat) (A : ab) (w : Nat) (t1 t2 : tr) : Option ab × Option ab × Int32 := match (ev en A t1 none).1, (ev en A t2 none).1 with
  | none, _ => (none, none, (ev en A t1 none).2)
  | some _, none => (none, none, (ev en A t1 none).2 ||| (ev en A t2 none).2)
  | some _, some _ => (o_cl (r_h A (pt en A t1 false false ++ pt en A t2 false true) w), o_cl (r_h A (pt en A t1 false false ++ pt en A t2 false true) (r_op w)), (ev en A t1 none).2 ||| (ev en A t2 none).2)
/-- A with less bounds -/
abbrev lsA (A M : ab) : Prop := (M.n = A.n) ∧ (M.a = A.a) ∧ (M.lo = A.lo) ∧ (M.hi = A.hi) ∧ (M.rm = A.rm) ∧ (oc_C M.n M.m) ∧ (∀ i j, i < 2 * A.n → j < 2 * A.n → -34359738368 ≤ M.m i j ∧ M.m i j ≤ A.m i j)
theorem lsA.n {A M : ab} (q : lsA A M) : M.n = A.n := q.1
theorem lsA.a {A M : ab} (q : lsA A M) : M.a = A.a := q.2.1
theorem lsA.lo {A M : ab} (q : lsA A M) : M.lo = A.lo := q.2.2.1
theorem lsA.hi {A M : ab} (q : lsA A M) : M.hi = A.hi := q.2.2.2.1
theorem lsA.rm {A M : ab} (q : lsA A M) : M.rm = A.rm := q.2.2.2.2.1
theorem lsA.C {A M : ab} (q : lsA A M) : oc_C M.n M.m := q.2.2.2.2.2.1
theorem lsA.b {A M : ab} (q : lsA A M) : ∀ i j, i < 2 * A.n → j < 2 * A.n → -34359738368 ≤ M.m i j ∧ M.m i j ≤ A.m i j := q.2.2.2.2.2.2
section RHs
variable {A M : ab} {ps : List pa} {mi : Bool} {c : Int}
theorem lsA_id (hT : ab_T A) : lsA A A := ⟨rfl, rfl, rfl, rfl, rfl, hT.t.1, fun i j hi hj => by have := hT.lo2 hi hj; omega⟩
theorem meet_ok (O : MO A ps) (hc : -2 ≤ c ∧ c ≤ 2) {C : Option ab} (h : ∀ M, C = some M → lsA A M) : ∀ M, a_meet A ps mi c C = some M → lsA A M := by
  intro M hM
  cases C with
  | none => cases hM
  | some M0 =>
    have h0 := h M0 rfl
    have hM : (if c < mLow A ps mi sk0 then none else some (a_lims (mtL A ps mi c ps.length ps.length) M0)) = some M := hM
    split at hM
    · cases hM
    · next q =>
      cases hM
      obtain ⟨f1, f2, f3, f4, f5⟩ := lims_f (mtL A ps mi c ps.length ps.length) M0
      have cond : ∀ e ∈ mtL A ps mi c ps.length ps.length, (e.1 < 2 * M0.n ∧ e.2.1 < 2 * M0.n ∧ e.1 ≠ oc_b e.2.1) ∧ -34359738368 ≤ lmV e := fun e he => by
        obtain ⟨i, j, h1, h2, h3, h4⟩ := (mtL_m _ (Nat.le_refl _)).mp he
        exact ⟨O.cc (Nat.le_of_eq h0.n.symm) h1 h3 h4, O.v hc (by omega) h1 h3 h4⟩
      refine ⟨f1.trans h0.n, f2.trans h0.a, f3.trans h0.lo, f4.trans h0.hi, f5.trans h0.rm, ?_, fun i j hi hj => ⟨?_, ?_⟩⟩
      · rw [f1]; exact lims_C _ _ h0.C (fun e he => (cond e he).1)
      · rw [lims_le]; exact ⟨(h0.b i j hi hj).1, fun e he _ => (cond e he).2⟩
      · have := ((lims_le (i := i) (j := j) (mtL A ps mi c ps.length ps.length) M0 _).mp (Int.le_refl _)).1
        have := (h0.b i j hi hj).2
        omega
theorem differ_ok (O : MO A ps) {C : Option ab} (h : ∀ M, C = some M → lsA A M) : ∀ M, a_differ A ps C = some M → lsA A M := by
  intro M hM
  unfold a_differ at hM
  split at hM
  · cases hM
  · split at hM
    · exact meet_ok O (by omega) h M hM
    · split at hM
      · exact meet_ok O (by omega) h M hM
      · exact h M hM
theorem r_ok (O : MO A ps) (w : Nat) : ∀ M, r_h A ps w = some M → lsA A M := by
  have id : ∀ M, some A = some M → lsA A M := fun M e => by cases e; exact lsA_id O.T
  intro M hM
  unfold r_h at hM
  split at hM
  · exact meet_ok O (by omega) id M hM
  · split at hM
    · exact meet_ok O (by omega) id M hM
    · split at hM
      · exact meet_ok O (by omega) id M hM
      · split at hM
        · exact meet_ok O (by omega) id M hM
        · split at hM
          · exact meet_ok O (by omega) (meet_ok O (by omega) id) M hM
          · exact differ_ok O id M hM
theorem cl_ok (hT : ab_T A) {C : Option ab} (h : ∀ M, C = some M → lsA A M) : ∀ B, o_cl C = some B → ab_T B ∧ B.n = A.n ∧ B.a = A.a ∧ B.rm = A.rm := by
  intro B hB
  cases C with
  | none => cases hB
  | some M =>
    obtain ⟨hn, ha, hlo, hhi, hrm, hC, hb⟩ := h M rfl
    have hB : a_cl M = some B := hB
    obtain ⟨t, n', a', -, -, r', -⟩ := a_cl_T2 hB (by rw [hn]; exact hT.n12) (by rw [ha]; exact hT.a6) (fun i hi => by
      rw [hn] at hi
      have := (hb i (oc_b i) hi (oc_bl hi)).2
      have := hT.un hi
      omega) (fun x hx => by rw [ha] at hx; rw [hlo, hhi]; exact hT.e x hx)
    exact ⟨t, n'.trans hn, a'.trans ha, r'.trans hrm⟩
/-- Known.settle -/
theorem u_286 {h : mh_H} {o d : Nat} {C : Option ab} (hT : ab_T A) (hC : ∀ M, C = some M → lsA A M) (k : RK h o C) : ∃ h', fq (kW o) h h' ∧ RK h' o (o_cl C) ∧ ∀ Q, mcall (d + 1) 286 [.ref o] h Q = Q none h' := by
  cases C with
  | none => exact k_286n k
  | some M =>
    obtain ⟨hn, ha, hlo, hhi, hrm, hC', hb⟩ := hC M rfl
    exact k_286 k hC' (Or.inl (fun i j hi hj => by
      rw [hn] at hi hj
      have := hb i j hi hj
      have := hT.lo2 hi hj
      omega))
end RHs
