set_option maxRecDepth 100000
def tT : tr → tr
  | .leaf u => .leaf u
  | .branch _ _ r => r
theorem e_bi_s {q : er} {f : Int → Int → er} {p : Int × Int} (h : (e_bi q f).1 = some p) : ∃ a b, q.1 = some (a, b) ∧ (f a b).1 = some p := by
  unfold e_bi at h
  cases hq : q.1 with
  | none => rw [hq] at h; cases h
  | some ab => rw [hq] at h; exact ⟨ab.1, ab.2, rfl, h⟩
theorem e_ints_in {a b x y : Int} (h : (e_ints a b).1 = some (x, y)) : iI x ∧ iI y ∧ x ≤ y := by
  unfold e_ints at h
  dsimp only at h
  split at h
  · cases h
    unfold iI
    omega
  · cases h
theorem e_rest_in {a b c d x y : Int} (ha : iI a) (hb : iI b) (hc : iI c) (hd : iI d) (h : (e_rest a b c d).1 = some (x, y)) : iI x ∧ iI y ∧ x ≤ y := by
  unfold e_rest at h
  split at h
  · cases h
  · next z =>
    dsimp only at h
    cases h
    unfold iI at *
    omega
theorem e_op_in {k : Nat} {a b c d x y : Int} (ha : iI a) (hb : iI b) (hc : iI c) (hd : iI d) (h : (e_op k a b c d).1 = some (x, y)) : iI x ∧ iI y ∧ x ≤ y := by
  unfold e_op at h
  split at h
  · exact e_ints_in h
  · split at h
    · exact e_ints_in h
    · split at h
      · exact e_ints_in h
      · split at h
        · unfold e_over at h
          split at h
          · cases h
          · exact e_ints_in h
        · exact e_rest_in ha hb hc hd h
theorem e_nm_in {A : ab} {k x' y' : Nat} {c d x y : Int} (h : (e_nm A k x' y' c d).1 = some (x, y)) : iI x ∧ iI y ∧ x ≤ y := by
  unfold e_nm at h
  split at h
  · split at h
    · cases h
      unfold iI
      omega
    · exact e_ints_in h
  · exact e_ints_in h
theorem e_two_in {en : Int → Nat} {A : ab} {k : Nat} {nm nm2 : Option Int} {a b c d x y : Int} (ha : iI a) (hb : iI b) (hc : iI c) (hd : iI d) (h : (e_two en A k nm nm2 a b c d).1 = some (x, y)) : iI x ∧ iI y ∧ x ≤ y := by
  unfold e_two at h
  split at h
  · split at h
    · exact e_nm_in h
    · exact e_op_in ha hb hc hd h
  · exact e_op_in ha hb hc hd h
theorem ab_nm {A : ab} (hT : ab_T A) {x : Nat} (hx : x < A.n) : iI (-a_gr A (2 * x + 1) (2 * x + 1)) ∧ iI (a_gr A (2 * x) (2 * x)) ∧ -a_gr A (2 * x + 1) (2 * x + 1) ≤ a_gr A (2 * x) (2 * x) := by
  have u1 := hT.up (2 * x) (2 * x + 1) (by omega) (by omega) (by omega)
  have u2 := hT.up (2 * x + 1) (2 * x) (by omega) (by omega) (by omega)
  have c := oc_T_cyc hT.t (i := 2 * x) (j := 2 * x + 1) (by omega) (by omega)
  have p1 := hT.t.2.2.1 (2 * x) (by omega)
  have p2 := hT.t.2.2.1 (2 * x + 1) (by omega)
  rw [oc_be] at u1 p1
  rw [oc_bo] at u2 p2
  have g0 : gI (2 * x) = 2147483647 := by unfold gI; rw [if_pos (by omega)]
  have g1 : gI (2 * x + 1) = 2147483648 := by unfold gI; rw [if_neg (by omega)]
  rw [g1] at u1
  rw [g0] at u2
  unfold a_gr iI
  rw [if_pos rfl, if_pos rfl, oc_be, oc_bo]
  omega
section EVI
variable {sN : Int → Prop} {en : Int → Nat} {A : ab}
/-- ranges that are found are ints, in order -/
theorem ev_in (hT : ab_T A) : ∀ t, (wS sN en A t false → ∀ x y, (ev en A t none).1 = some (x, y) → iI x ∧ iI y ∧ x ≤ y) ∧ (∀ q, wS sN en A t true → iI q.1 → iI q.2.1 → q.1 ≤ q.2.1 → ∀ x y, (ev en A t (some q)).1 = some (x, y) → iI x ∧ iI y ∧ x ≤ y) ∧ (∀ q, wS sN en A (tT t) true → iI q.1 → iI q.2.1 → q.1 ≤ q.2.1 → ∀ x y, (ev en A (tT t) (some q)).1 = some (x, y) → iI x ∧ iI y ∧ x ≤ y) := by
  intro t
  induction t with
  | leaf u =>
    have L : ∀ q : Int × Int × Option Int, iI q.1 → iI q.2.1 → q.1 ≤ q.2.1 → ∀ x y, (ev en A (.leaf u) (some q)).1 = some (x, y) → iI x ∧ iI y ∧ x ≤ y := fun q h1 h2 h3 x y e => by
      cases e; exact ⟨h1, h2, h3⟩
    exact ⟨fun z => absurd z (fun w => w), fun q _ => L q, fun q _ => L q⟩
  | branch n cs r ih1 ih2 =>
    obtain ⟨i1, i2, i3⟩ := ih1
    obtain ⟨j1, j2, j3⟩ := ih2
    refine ⟨fun w x y e => ?_, fun q w h1 h2 h3 x y e => ?_, j2⟩
    · by_cases k12 : tK n = 12
      · rw [ev_12 k12] at e
        rcases cs with _ | ⟨_, _, _ | ⟨_, _, _⟩⟩
        all_goals
          have w' : (if tK n = 12 then iI (tV n) else _) := w
          rw [if_pos k12] at w'
          cases e
          exact ⟨w', w', Int.le_refl _⟩
      · by_cases k13 : tK n = 13
        · rw [ev_13 k13] at e
          rcases cs with _ | ⟨_, _, _ | ⟨_, _, _⟩⟩
          all_goals
            have w' : (if tK n = 12 then _ else if tK n = 13 then sN (tV n) ∧ en (tV n) < A.n else _) := w
            rw [if_neg k12, if_pos k13] at w'
            cases e
            exact ab_nm hT w'.2
        · by_cases k14 : tK n = 14
          · rcases cs with _ | ⟨m, cs', r'⟩
            · have w' : (if tK n = 12 then _ else if tK n = 13 then _ else if tK n = 14 then False else _) := w
              rw [if_neg k12, if_neg k13, if_pos k14] at w'
              exact absurd w' (fun z => z)
            · have w' : ts cs' = 0 ∧ sN (tV m) ∧ en (tV m) < A.a ∧ 1 ≤ A.rm (en (tV m)) ∧ A.rm (en (tV m)) ≤ 64 ∧ wS sN en A r' false := by
                rcases r' with _ | ⟨_, _, _⟩
                all_goals
                  have w' : (if tK n = 12 then _ else if tK n = 13 then _ else if tK n = 14 then _ else _) := w
                  rw [if_neg k12, if_neg k13, if_pos k14] at w'
                  exact w'
              rw [ev_14 (cs := cs') k14] at e
              obtain ⟨a, b, -, e2⟩ := e_bi_s e
              unfold e_cell at e2
              dsimp only at e2
              split at e2
              · cases e2
                have := hT.e (en (tV m)) w'.2.2.1
                unfold iI
                omega
              · cases e2
          · by_cases k15 : tK n = 15
            · rw [ev_15 k15] at e
              obtain ⟨a, b, -, e2⟩ := e_bi_s e
              exact e_ints_in e2
            · by_cases k16 : tK n = 16
              · rcases cs with u | ⟨l, c1, _ | ⟨g, c2, r2⟩⟩
                · rw [ev_16 k16] at e
                  cases e
                  unfold iI; omega
                · have w' : (if tK n = 12 then _ else if tK n = 13 then _ else if tK n = 14 then _ else if tK n = 15 then _ else if tK n = 16 then False else _) := w
                  rw [if_neg k12, if_neg k13, if_neg k14, if_neg k15, if_pos k16] at w'
                  exact absurd w' (fun z => z)
                · have w' : (if tK n = 12 then _ else if tK n = 13 then _ else if tK n = 14 then _ else if tK n = 15 then _ else if tK n = 16 then ts c1 = 0 ∧ iI (tV l) ∧ iI (tV g) ∧ tV l ≤ tV g else _) := w
                  rw [if_neg k12, if_neg k13, if_neg k14, if_neg k15, if_pos k16] at w'
                  rw [ev_16b k16] at e
                  cases e
                  exact w'.2
              · rcases cs with _ | ⟨m, cs', r'⟩
                · have w' : (if tK n = 12 then _ else if tK n = 13 then _ else if tK n = 14 then _ else if tK n = 15 then _ else if tK n = 16 then _ else False) := w
                  rw [if_neg k12, if_neg k13, if_neg k14, if_neg k15, if_neg k16] at w'
                  exact absurd w' (fun z => z)
                · have w' : wS sN en A (.branch m cs' r') false ∧ wS sN en A r' true := by
                    rcases r' with _ | ⟨_, _, _⟩
                    all_goals
                      have w' : (if tK n = 12 then _ else if tK n = 13 then _ else if tK n = 14 then _ else if tK n = 15 then _ else if tK n = 16 then _ else _) := w
                      rw [if_neg k12, if_neg k13, if_neg k14, if_neg k15, if_neg k16] at w'
                      exact w'
                  rw [ev_17 ⟨k12, k13, k14, k15, k16⟩] at e
                  obtain ⟨a, b, e1, e2⟩ := e_bi_s e
                  obtain ⟨b1, b2, b3⟩ := i1 w'.1 a b e1
                  exact i3 (a, b, _) w'.2 b1 b2 b3 x y e2
    · rw [ev_L] at e
      obtain ⟨c, d, e1, e2⟩ := e_bi_s e
      obtain ⟨c1, c2, c3⟩ := i1 w.2.1 c d e1
      obtain ⟨a, b, e3, e4⟩ := e_bi_s e2
      obtain ⟨b1, b2, b3⟩ := e_two_in h1 h2 c1 c2 e3
      exact j2 (a, b, none) w.2.2 b1 b2 b3 x y e4
end EVI
