set_option maxRecDepth 100000
/-! THE START: the class's side -/
theorem BS_E : BS mp_hE 9 10 11 12 13 14 15 3 1 2 := by
  obtain ⟨⟨r2, r3, r4, r6, -, -⟩, y1, -, p9, p10, -⟩ := e_c1
  obtain ⟨⟨k1, k2, l1, l2⟩, -⟩ := e_c2
  obtain ⟨⟨s0, s2, s3, s4, s6, s7⟩, ⟨g9, g0, g1, g2, g3, g4, g5⟩, m0, m1, m2, m3, m4, m5⟩ := e_sq
  have lt : ∀ b c, b < 2644 → mh_k mp_hE b = c → mg mp_hE b c := fun b c hb e => ⟨e, by rw [en_E]; exact hb⟩
  refine ⟨CF_E, CS_E, ⟨39, 40, 0, ⟨p9, p10, lt 39 101 (by omega) k1, lt 40 101 (by omega) k2, l1, l2, by omega, fun x hx => by omega, fun o ho x hx => ?_, Nat.zero_le _⟩⟩, ⟨lt 9 7 (by omega) g9, s0, s2, s3, s4, s6, s7, lt 10 100 (by omega) g0, lt 11 100 (by omega) g1, lt 12 100 (by omega) g2, lt 13 100 (by omega) g3, lt 14 100 (by omega) g4, lt 15 100 (by omega) g5, m0, m1, m2, m3, m4, m5, fun x hx => by omega, by omega, by omega, by omega⟩, y1, by rw [en_E]; omega, ⟨42, 45, 48, r2, r3, r4⟩⟩
  obtain ⟨b, j, p, e⟩ := ho
  have := pl_E p e
  omega
section SEs
variable {sp : Nat → Nat → Bool} {NL : List Nat} {Pt : Nat → lpt} {E0 : nv}
theorem no_E {b j : Nat} (p : isPl b j) (h1 : b = 54 ∨ b = 73) : mh_r mp_hE b j = none ∨ ∃ v, pv mp_hE b j v := by
  cases e : mh_r mp_hE b j with
  | none => exact Or.inl rfl
  | some o =>
    have w := pl_E p e
    have m : o ∈ [75, 78] := by
      simp only [List.mem_cons, List.not_mem_nil, or_false]
      omega
    exact Or.inr ⟨_, o, e, RS_E m⟩
theorem CPg_E : CPg mp_hE 9 10 11 12 13 14 15 3 1 2 0 (pgG sp NL Pt E0 0) (pJ sp NL Pt E0) (pJ2 sp NL Pt E0) 1 (fun _ => 0) (fun _ => 0) (fun _ => 0) := by
  obtain ⟨⟨i0, i2, i3, i4⟩, ⟨c2, c21, c22⟩, -, ⟨-, -, y5⟩, -⟩ := e_c3
  obtain ⟨⟨-, -, -, r6, -, -⟩, -, r20, -, -, -⟩ := e_c1
  obtain ⟨-, k33, -, -⟩ := e_c2
  have k0 : ∀ p, (pgG sp NL Pt E0 0).kd p = 0 := fun p => show (if p < 0 then skN (Pt p).N else 0) = 0 from if_neg (Nat.not_lt_zero p)
  have n0 : ∀ p, (pgG sp NL Pt E0 0).n p = 0 := fun p => show (if p < 0 then (Pt p).X.nb + cnZl (Pt p).L else 0) = 0 from if_neg (Nat.not_lt_zero p)
  have a0 : ∀ p, (pgG sp NL Pt E0 0).a p = 0 := fun p => show (if p < 0 then (Pt p).X.na + cnAl (Pt p).L else 0) = 0 from if_neg (Nat.not_lt_zero p)
  have gS : mg mp_hE 33 9 := ⟨k33, by rw [en_E]; omega⟩
  have nn : ∀ b j, b = 62 ∨ b = 63 ∨ b = 64 → mh_r mp_hE b j = none := fun b j hb => by
    cases e : mh_r mp_hE b j with
    | none => rfl
    | some o =>
      have w := pl_E (b := b) (j := j) (by unfold isPl; omega) e
      omega
  refine CPg.of ⟨BS_E, ⟨c2, by decide, fun p hp => ?_, fun p hp => ?_, fun p hp k5 => ?_, fun p hp k4 _ => ?_⟩, ⟨⟨y5, by decide⟩, fun p hp => absurd hp (by omega)⟩, ⟨⟨y5, by decide⟩, fun p hp => absurd hp (by omega)⟩, fun p hp => absurd hp (by omega), fun p hp => absurd hp (by omega), fun i hi => Or.inl ⟨nn 62 i (by omega), nn 63 i (by omega), nn 64 i (by omega)⟩, (by rw [r6]; exact fun z => (by cases z)), fun q hq => no_E (by unfold isPl; omega) (Or.inl rfl), fun q hq => no_E (by unfold isPl; omega) (Or.inr rfl), fun q hq St e => ?_⟩
  · have ep : p = 0 := by omega
    subst ep
    exact ⟨33, 0, 0, 0, 0, r20, gS, by rw [i0, k0]; rfl, by rw [c21]; rfl, by rw [i3]; rfl, by rw [n0], by rw [c22]; rfl, by rw [i4]; rfl, by rw [a0]⟩
  · rw [k0, n0, a0]
    decide
  · rw [k0] at k5
    exact absurd k5 (by decide)
  · rw [k0] at k4
    exact absurd k4 (by decide)
  · have q0 : q = 0 := by omega
    subst q0
    rw [r20] at e
    cases e
    exact i2
/-- the class's side of the start, whatever the heap is called -/
theorem ICl_0 {h : mh_H} (P : CPg h 9 10 11 12 13 14 15 3 1 2 0 (pgG sp NL Pt E0 0) (pJ sp NL Pt E0) (pJ2 sp NL Pt E0) 1 (fun _ => 0) (fun _ => 0) (fun _ => 0)) (k1 : pv h 54 0 (some A00)) (c1 : pv h 73 0 (some A00)) (f1 : mh_i h 0 1 = 0) (f7 : mh_i h 0 7 = 0) (f10 : mh_i h 0 10 = 0) (f11 : mh_i h 0 11 = 0) (f14 : mh_i h 0 14 = 0) (m3 : mh_i h 53 3 = 0) (a55 : mh_i h 55 0 = 0) (w2 : mh_i h 67 2 = 0) (w3 : mh_i h 67 3 = 0) (w4 : mh_i h 67 4 = 0) (w5 : mh_i h 67 5 = 0) (w9 : mh_i h 67 9 = 0) (r13 : mh_r h 0 13 = some 74) (g74 : mg h 74 102) (l74 : mh_l h 74 = 64) : ICl h (0, fun _ => 0) (false, mh_i h 0 8, mh_i h 0 9, mh_i h 53 2) (gNo sp NL Pt E0) (fun _ => some A00) (0, mh_i h 68) (0, 0, 0, 0, mh_i h 2640, mh_i h 2641) [] := by
  have ge : (pgG sp NL Pt E0 0).n 0 = 0 ∧ (pgG sp NL Pt E0 0).a 0 = 0 := pg_e
  have z1 : ∀ q, q < (gNo sp NL Pt E0).c → q = 0 := fun q hq => by
    have hq' : q < 1 := hq
    omega
  refine ICl.of ⟨⟨9, 10, 11, 12, 13, 14, 15, 3, 1, 2, 0, P⟩, fun q hq => ?_, fun q hq => ?_, ⟨f1, fun i hi => absurd hi (Nat.not_lt_zero _)⟩, ⟨f7, rfl, rfl, rfl⟩, m3, fun q hq => ?_, ⟨false, false, f10, f11, fun z => (by cases z), fun _ _ _ => rfl⟩, ⟨w2, rfl⟩, ⟨w4, w5, w3, w9, fun x hx => ?_, fun x hx => ?_⟩, ⟨74, 64, LNa.of ⟨r13, g74, l74, by omega, Or.inl rfl, ⟨Nat.zero_le _, Nat.zero_le _⟩, f14, fun i v e => (by simp at e)⟩⟩, CNm_n⟩
  · rw [z1 q hq]
    exact k1
  · rw [z1 q hq]
    exact c1
  · rw [z1 q hq]
    exact a55
  · have hx' : x < (pgG sp NL Pt E0 0).n 0 := hx
    rw [ge.1] at hx'
    exact absurd hx' (Nat.not_lt_zero _)
  · have hx' : x < (pgG sp NL Pt E0 0).a 0 := hx
    rw [ge.2] at hx'
    exact absurd hx' (Nat.not_lt_zero _)
theorem ICl_E : ICl mp_hE (0, fun _ => 0) (false, mh_i mp_hE 0 8, mh_i mp_hE 0 9, mh_i mp_hE 53 2) (gNo sp NL Pt E0) (fun _ => some A00) (0, mh_i mp_hE 68) (0, 0, 0, 0, mh_i mp_hE 2640, mh_i mp_hE 2641) [] :=
  ICl_0 CPg_E ⟨75, e_c1.1.2.2.2.2.1, RS_E (by decide)⟩ ⟨78, e_c1.1.2.2.2.2.2, RS_E (by decide)⟩ e_c3.2.2.1.1 e_c3.2.2.1.2.1 e_c3.2.2.1.2.2.1 e_c3.2.2.1.2.2.2.1 e_c3.2.2.1.2.2.2.2 e_c3.2.2.2.1.1 e_c3.2.2.2.1.2.1 e_c3.2.2.2.2.1 e_c3.2.2.2.2.2.1 e_c3.2.2.2.2.2.2.1 e_c3.2.2.2.2.2.2.2.1 e_c3.2.2.2.2.2.2.2.2 e_c1.2.2.2.2.2 ⟨e_c2.2.2.1, Nat.lt_of_lt_of_eq (by decide) en_E.symm⟩ e_c2.2.2.2
end SEs
