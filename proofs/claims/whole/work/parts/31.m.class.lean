set_option maxRecDepth 100000
/-! the parts of a form -/
/-- a part: turned round or not; its slot, -1 for a NUMBER, -2 for another one; its range -/
abbrev pa : Type := Bool × Int × Int × Int
def pk (en : Int → Nat) (n : Nat) : Int := if tK n = 13 then (en (tV n) : Int) else if tK n = 12 then -1 else -2
def p1 (en : Int → Nat) (A : ab) (n : Nat) (cs r : tr) (tu : Bool) : pa := match (ev en A (.branch n cs r) none).1 with
  | none => (tu, pk en n, 0, 0)
  | some q => (tu, pk en n, q.1, q.2)
def pt (en : Int → Nat) (A : ab) : tr → Bool → Bool → List pa
  | .leaf _, _, _ => []
  | .branch n cs r, false, tu =>
    if tK n = 15 then pt en A cs false (!tu)
    else if tK n = 17 then (match cs with
      | .leaf _ => []
      | .branch m c' r' => pt en A (.branch m c' r') false tu ++ pt en A r' true tu)
    else [p1 en A n cs r tu]
  | .branch n cs r, true, tu => pt en A cs false (if tK n = 18 then tu else !tu) ++ pt en A r true tu
def pn : tr → Bool → Nat
  | .leaf _, _ => 0
  | .branch n cs _, false =>
    if tK n = 15 then pn cs false
    else if tK n = 17 then (match cs with
      | .leaf _ => 0
      | .branch m c' r' => pn (.branch m c' r') false + pn r' true)
    else 1
  | .branch _ cs r, true => pn cs false + pn r true
/-- where parts end: their codes' numbers stand from q on -/
def pe (E : Nat → Int32) : tr → Bool → Nat → Nat → Prop
  | .leaf _, _, _, _ => True
  | .branch n cs r, false, q, k =>
    if tK n = 15 then pe E cs false q k
    else if tK n = 17 then (match cs with
      | .leaf _ => False
      | .branch m c' r' => pe E (.branch m c' r') false q k ∧ pe E r' true (q + pn (.branch m c' r') false) (k + cl (.branch m c' r') false))
    else E q = Int32.ofNat (k + cl (.branch n cs r) false)
  | .branch _ cs r, true, q, k => pe E cs false q k ∧ pe E r true (q + pn cs false) (k + cl cs false + 1)
section PTE
variable {n m : Nat} {cs cs' r r' : tr} {en : Int → Nat} {A : ab} {E : Nat → Int32} {q k : Nat} {tu : Bool}
theorem pt_L : pt en A (.branch n cs r) true tu = pt en A cs false (if tK n = 18 then tu else !tu) ++ pt en A r true tu := rfl
theorem pn_L : pn (.branch n cs r) true = pn cs false + pn r true := rfl
theorem pt_15 (h : tK n = 15) : pt en A (.branch n cs r) false tu = pt en A cs false (!tu) := by
  rcases cs with _ | ⟨_, _, _⟩
  all_goals
    show (if tK n = 15 then _ else _) = _
    rw [if_pos h]
theorem pt_17 (h : tK n = 17) : pt en A (.branch n (.branch m cs' r') r) false tu = pt en A (.branch m cs' r') false tu ++ pt en A r' true tu := by
  show (if tK n = 15 then _ else if tK n = 17 then _ else _) = _
  rw [if_neg (by omega), if_pos h]
theorem pt_1 (h : ¬ tK n = 15) (h2 : ¬ tK n = 17) : pt en A (.branch n cs r) false tu = [p1 en A n cs r tu] := by
  rcases cs with _ | ⟨_, _, _⟩
  all_goals
    show (if tK n = 15 then _ else if tK n = 17 then _ else _) = _
    rw [if_neg h, if_neg h2]
theorem pn_15 (h : tK n = 15) : pn (.branch n cs r) false = pn cs false := by
  rcases cs with _ | ⟨_, _, _⟩
  all_goals
    show (if tK n = 15 then _ else _) = _
    rw [if_pos h]
theorem pn_17 (h : tK n = 17) : pn (.branch n (.branch m cs' r') r) false = pn (.branch m cs' r') false + pn r' true := by
  show (if tK n = 15 then _ else if tK n = 17 then _ else _) = _
  rw [if_neg (by omega), if_pos h]
theorem pn_1 (h : ¬ tK n = 15) (h2 : ¬ tK n = 17) : pn (.branch n cs r) false = 1 := by
  rcases cs with _ | ⟨_, _, _⟩
  all_goals
    show (if tK n = 15 then _ else if tK n = 17 then _ else _) = _
    rw [if_neg h, if_neg h2]
theorem pe_15 (h : tK n = 15) (w : pe E (.branch n cs r) false q k) : pe E cs false q k := by
  rcases cs with _ | ⟨_, _, _⟩
  all_goals
    have w' : (if tK n = 15 then _ else _) := w
    rw [if_pos h] at w'
    exact w'
theorem pe_17 (h : tK n = 17) (w : pe E (.branch n (.branch m cs' r') r) false q k) : pe E (.branch m cs' r') false q k ∧ pe E r' true (q + pn (.branch m cs' r') false) (k + cl (.branch m cs' r') false) := by
  have w' : (if tK n = 15 then _ else if tK n = 17 then _ else _) := w
  rw [if_neg (by omega), if_pos h] at w'
  exact w'
theorem pe_1 (h : ¬ tK n = 15) (h2 : ¬ tK n = 17) (w : pe E (.branch n cs r) false q k) : E q = Int32.ofNat (k + cl (.branch n cs r) false) := by
  rcases cs with _ | ⟨_, _, _⟩
  all_goals
    have w' : (if tK n = 15 then _ else if tK n = 17 then _ else _) := w
    rw [if_neg h, if_neg h2] at w'
    exact w'
theorem k17 {n : Nat} (h : tK n = 17) : ¬ tK n = 12 ∧ ¬ tK n = 13 ∧ ¬ tK n = 14 ∧ ¬ tK n = 15 ∧ ¬ tK n = 16 := by omega
/-- the first part of a SUM ends behind its first code -/
theorem pe_first {sN : Int → Prop} : ∀ t q k, wS sN en A t false → pe E t false q k → 1 ≤ pn t false ∧ ∃ e, E q = Int32.ofNat e ∧ k < e ∧ e ≤ k + cl t false := by
  intro t
  induction t with
  | leaf u => intro q k w; exact absurd w (fun z => z)
  | branch n cs r ih1 _ =>
    intro q k w p
    by_cases k15 : tK n = 15
    · obtain ⟨h1, e, e1, e2, e3⟩ := ih1 q k (w_15 k15 w) (pe_15 k15 p)
      rw [pn_15 k15, cl_15 k15]
      exact ⟨h1, e, e1, e2, by omega⟩
    · by_cases k1' : tK n = 17
      · obtain ⟨m, cs', r', rfl, w1, w2⟩ := w_17 (k17 k1') w
        obtain ⟨p1', p2'⟩ := pe_17 k1' p
        obtain ⟨h1, e, e1, e2, e3⟩ := ih1 q k w1 p1'
        rw [pn_17 k1', cl_17 (k17 k1')]
        exact ⟨by omega, e, e1, e2, by omega⟩
      · have cp := cl_pos w
        rw [pn_1 k15 k1']
        exact ⟨Nat.le_refl _, _, pe_1 k15 k1' p, by omega, Nat.le_refl _⟩
theorem pt_len : ∀ t mo tu, (pt en A t mo tu).length = pn t mo ∧ (pt en A (tT t) mo tu).length = pn (tT t) mo := by
  intro t
  induction t with
  | leaf u => intro mo tu; exact ⟨rfl, rfl⟩
  | branch n cs r ih1 ih2 =>
    intro mo tu
    refine ⟨?_, (ih2 mo tu).1⟩
    cases mo with
    | false =>
      by_cases k15 : tK n = 15
      · rw [pt_15 k15, pn_15 k15]; exact (ih1 _ _).1
      · by_cases k1' : tK n = 17
        · rcases cs with _ | ⟨m, cs', r'⟩
          · have e1 : pt en A (.branch n (.leaf ()) r) false tu = [] := by
              show (if tK n = 15 then _ else if tK n = 17 then _ else _) = _
              rw [if_neg k15, if_pos k1']
            have e2 : pn (.branch n (.leaf ()) r) false = 0 := by
              show (if tK n = 15 then _ else if tK n = 17 then _ else _) = _
              rw [if_neg k15, if_pos k1']
            exact (congrArg List.length e1).trans e2.symm
          · rw [pt_17 k1', pn_17 k1', List.length_append, (ih1 _ _).1]
            have := (ih1 true tu).2
            exact congrArg (_ + ·) this
        · rw [pt_1 k15 k1', pn_1 k15 k1']; rfl
    | true => rw [pt_L, pn_L, List.length_append, (ih1 _ _).1, (ih2 _ _).1]
end PTE
