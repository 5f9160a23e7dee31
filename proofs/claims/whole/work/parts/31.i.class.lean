set_option maxRecDepth 100000
/-! the codes of a SUM: how many, which, how high the values stand -/
def cl : tr → Bool → Nat
  | .leaf _, _ => 0
  | .branch n cs _, false =>
    if tK n = 12 then 1
    else if tK n = 13 then 1
    else if tK n = 14 then (match cs with
      | .leaf _ => 1
      | .branch _ _ r' => cl r' false + 1)
    else if tK n = 15 then cl cs false + 1
    else if tK n = 16 then 1
    else (match cs with
      | .leaf _ => 0
      | .branch m c' r' => cl (.branch m c' r') false + cl r' true)
  | .branch _ cs r, true => cl cs false + 1 + cl r true
def sh : tr → Bool → Nat
  | .leaf _, _ => 0
  | .branch n cs _, false =>
    if tK n = 12 then 1
    else if tK n = 13 then 1
    else if tK n = 14 then (match cs with
      | .leaf _ => 1
      | .branch _ _ r' => sh r' false)
    else if tK n = 15 then sh cs false
    else if tK n = 16 then 1
    else (match cs with
      | .leaf _ => 0
      | .branch m c' r' => max (sh (.branch m c' r') false) (1 + sh r' true))
  | .branch _ cs r, true => max (sh cs false) (sh r true)
def cd (en : Int → Nat) (nb na : Nat) (rm : Nat → Nat) (C : Nat → Int32) : tr → Bool → Nat → Prop
  | .leaf _, _, _ => True
  | .branch n cs _, false, k =>
    if tK n = 12 then C (3 * k) = 1 ∧ (C (3 * k + 1)).toInt = tV n
    else if tK n = 13 then C (3 * k) = 2 ∧ ∃ s, C (3 * k + 1) = Int32.ofNat s ∧ en (tV n) = nb + s
    else if tK n = 14 then (match cs with
      | .leaf _ => False
      | .branch m _ r' => cd en nb na rm C r' false k ∧ C (3 * (k + cl r' false)) = 3 ∧ (∃ s, C (3 * (k + cl r' false) + 1) = Int32.ofNat s ∧ en (tV m) = na + s) ∧ C (3 * (k + cl r' false) + 2) = Int32.ofNat (rm (en (tV m))))
    else if tK n = 15 then cd en nb na rm C cs false k ∧ C (3 * (k + cl cs false)) = 5
    else if tK n = 16 then C (3 * k) = 4 ∧ (match cs with
      | .branch l _ (.branch g _ _) => (C (3 * k + 1)).toInt = tV l ∧ (C (3 * k + 2)).toInt = tV g
      | _ => (C (3 * k + 1)).toInt = -2147483648 ∧ (C (3 * k + 2)).toInt = 2147483647)
    else (match cs with
      | .leaf _ => False
      | .branch m c' r' => cd en nb na rm C (.branch m c' r') false k ∧ cd en nb na rm C r' true (k + cl (.branch m c' r') false) ∧ 0 < ts r')
  | .branch n cs r, true, k => cd en nb na rm C cs false k ∧ C (3 * (k + cl cs false)) = opb (tK n) ∧ cd en nb na rm C r true (k + cl cs false + 1)
section CLE
variable {n m : Nat} {cs cs' r r' : tr} {en : Int → Nat} {nb na : Nat} {rm : Nat → Nat} {C : Nat → Int32} {k : Nat}
theorem cl_L : cl (.branch n cs r) true = cl cs false + 1 + cl r true := rfl
theorem sh_L : sh (.branch n cs r) true = max (sh cs false) (sh r true) := rfl
theorem cl_12 (h : tK n = 12) : cl (.branch n cs r) false = 1 := by
  rcases cs with _ | ⟨_, _, _ | ⟨_, _, _⟩⟩
  all_goals
    show (if tK n = 12 then _ else _) = _
    rw [if_pos h]
theorem cl_13 (h : tK n = 13) : cl (.branch n cs r) false = 1 := by
  rcases cs with _ | ⟨_, _, _ | ⟨_, _, _⟩⟩
  all_goals
    show (if tK n = 12 then _ else if tK n = 13 then _ else _) = _
    rw [if_neg (by omega), if_pos h]
theorem cl_15 (h : tK n = 15) : cl (.branch n cs r) false = cl cs false + 1 := by
  rcases cs with _ | ⟨_, _, _ | ⟨_, _, _⟩⟩
  all_goals
    show (if tK n = 12 then _ else if tK n = 13 then _ else if tK n = 14 then _ else if tK n = 15 then _ else _) = _
    rw [if_neg (by omega), if_neg (by omega), if_neg (by omega), if_pos h]
theorem cl_16 (h : tK n = 16) : cl (.branch n cs r) false = 1 := by
  rcases cs with _ | ⟨_, _, _ | ⟨_, _, _⟩⟩
  all_goals
    show (if tK n = 12 then _ else if tK n = 13 then _ else if tK n = 14 then _ else if tK n = 15 then _ else if tK n = 16 then _ else _) = _
    rw [if_neg (by omega), if_neg (by omega), if_neg (by omega), if_neg (by omega), if_pos h]
theorem cl_14 (h : tK n = 14) : cl (.branch n (.branch m cs' r') r) false = cl r' false + 1 := by
  rcases r' with _ | ⟨_, _, _⟩
  all_goals
    show (if tK n = 12 then _ else if tK n = 13 then _ else if tK n = 14 then _ else _) = _
    rw [if_neg (by omega), if_neg (by omega), if_pos h]
theorem cl_17 (h : ¬ tK n = 12 ∧ ¬ tK n = 13 ∧ ¬ tK n = 14 ∧ ¬ tK n = 15 ∧ ¬ tK n = 16) : cl (.branch n (.branch m cs' r') r) false = cl (.branch m cs' r') false + cl r' true := by
  obtain ⟨h1, h2, h3, h4, h5⟩ := h
  rcases r' with _ | ⟨_, _, _⟩
  all_goals
    show (if tK n = 12 then _ else if tK n = 13 then _ else if tK n = 14 then _ else if tK n = 15 then _ else if tK n = 16 then _ else _) = _
    rw [if_neg h1, if_neg h2, if_neg h3, if_neg h4, if_neg h5]
theorem sh_12 (h : tK n = 12) : sh (.branch n cs r) false = 1 := by
  rcases cs with _ | ⟨_, _, _ | ⟨_, _, _⟩⟩
  all_goals
    show (if tK n = 12 then _ else _) = _
    rw [if_pos h]
theorem sh_13 (h : tK n = 13) : sh (.branch n cs r) false = 1 := by
  rcases cs with _ | ⟨_, _, _ | ⟨_, _, _⟩⟩
  all_goals
    show (if tK n = 12 then _ else if tK n = 13 then _ else _) = _
    rw [if_neg (by omega), if_pos h]
theorem sh_15 (h : tK n = 15) : sh (.branch n cs r) false = sh cs false := by
  rcases cs with _ | ⟨_, _, _ | ⟨_, _, _⟩⟩
  all_goals
    show (if tK n = 12 then _ else if tK n = 13 then _ else if tK n = 14 then _ else if tK n = 15 then _ else _) = _
    rw [if_neg (by omega), if_neg (by omega), if_neg (by omega), if_pos h]
theorem sh_16 (h : tK n = 16) : sh (.branch n cs r) false = 1 := by
  rcases cs with _ | ⟨_, _, _ | ⟨_, _, _⟩⟩
  all_goals
    show (if tK n = 12 then _ else if tK n = 13 then _ else if tK n = 14 then _ else if tK n = 15 then _ else if tK n = 16 then _ else _) = _
    rw [if_neg (by omega), if_neg (by omega), if_neg (by omega), if_neg (by omega), if_pos h]
theorem sh_14 (h : tK n = 14) : sh (.branch n (.branch m cs' r') r) false = sh r' false := by
  rcases r' with _ | ⟨_, _, _⟩
  all_goals
    show (if tK n = 12 then _ else if tK n = 13 then _ else if tK n = 14 then _ else _) = _
    rw [if_neg (by omega), if_neg (by omega), if_pos h]
theorem sh_17 (h : ¬ tK n = 12 ∧ ¬ tK n = 13 ∧ ¬ tK n = 14 ∧ ¬ tK n = 15 ∧ ¬ tK n = 16) : sh (.branch n (.branch m cs' r') r) false = max (sh (.branch m cs' r') false) (1 + sh r' true) := by
  obtain ⟨h1, h2, h3, h4, h5⟩ := h
  rcases r' with _ | ⟨_, _, _⟩
  all_goals
    show (if tK n = 12 then _ else if tK n = 13 then _ else if tK n = 14 then _ else if tK n = 15 then _ else if tK n = 16 then _ else _) = _
    rw [if_neg h1, if_neg h2, if_neg h3, if_neg h4, if_neg h5]
theorem cd_12 (h : tK n = 12) (w : cd en nb na rm C (.branch n cs r) false k) : C (3 * k) = 1 ∧ (C (3 * k + 1)).toInt = tV n := by
  rcases cs with _ | ⟨_, _, _ | ⟨_, _, _⟩⟩
  all_goals
    have w' : (if tK n = 12 then _ else _) := w
    rw [if_pos h] at w'
    exact w'
theorem cd_13 (h : tK n = 13) (w : cd en nb na rm C (.branch n cs r) false k) : C (3 * k) = 2 ∧ ∃ s, C (3 * k + 1) = Int32.ofNat s ∧ en (tV n) = nb + s := by
  rcases cs with _ | ⟨_, _, _ | ⟨_, _, _⟩⟩
  all_goals
    have w' : (if tK n = 12 then _ else if tK n = 13 then _ else _) := w
    rw [if_neg (by omega), if_pos h] at w'
    exact w'
theorem cd_15 (h : tK n = 15) (w : cd en nb na rm C (.branch n cs r) false k) : cd en nb na rm C cs false k ∧ C (3 * (k + cl cs false)) = 5 := by
  rcases cs with _ | ⟨_, _, _ | ⟨_, _, _⟩⟩
  all_goals
    have w' : (if tK n = 12 then _ else if tK n = 13 then _ else if tK n = 14 then _ else if tK n = 15 then _ else _) := w
    rw [if_neg (by omega), if_neg (by omega), if_neg (by omega), if_pos h] at w'
    exact w'
theorem cd_14 (h : tK n = 14) (w : cd en nb na rm C (.branch n (.branch m cs' r') r) false k) : cd en nb na rm C r' false k ∧ C (3 * (k + cl r' false)) = 3 ∧ (∃ s, C (3 * (k + cl r' false) + 1) = Int32.ofNat s ∧ en (tV m) = na + s) ∧ C (3 * (k + cl r' false) + 2) = Int32.ofNat (rm (en (tV m))) := by
  rcases r' with _ | ⟨_, _, _⟩
  all_goals
    have w' : (if tK n = 12 then _ else if tK n = 13 then _ else if tK n = 14 then _ else _) := w
    rw [if_neg (by omega), if_neg (by omega), if_pos h] at w'
    exact w'
theorem cd_16 {u : Unit} (h : tK n = 16) (w : cd en nb na rm C (.branch n (.leaf u) r) false k) : C (3 * k) = 4 ∧ (C (3 * k + 1)).toInt = -2147483648 ∧ (C (3 * k + 2)).toInt = 2147483647 := by
  have w' : (if tK n = 12 then _ else if tK n = 13 then _ else if tK n = 14 then _ else if tK n = 15 then _ else if tK n = 16 then _ else _) := w
  rw [if_neg (by omega), if_neg (by omega), if_neg (by omega), if_neg (by omega), if_pos h] at w'
  exact w'
theorem cd_16b {l g : Nat} {c1 c2 r2 : tr} (h : tK n = 16) (w : cd en nb na rm C (.branch n (.branch l c1 (.branch g c2 r2)) r) false k) : C (3 * k) = 4 ∧ (C (3 * k + 1)).toInt = tV l ∧ (C (3 * k + 2)).toInt = tV g := by
  have w' : (if tK n = 12 then _ else if tK n = 13 then _ else if tK n = 14 then _ else if tK n = 15 then _ else if tK n = 16 then _ else _) := w
  rw [if_neg (by omega), if_neg (by omega), if_neg (by omega), if_neg (by omega), if_pos h] at w'
  exact w'
theorem cd_17 (h : ¬ tK n = 12 ∧ ¬ tK n = 13 ∧ ¬ tK n = 14 ∧ ¬ tK n = 15 ∧ ¬ tK n = 16) (w : cd en nb na rm C (.branch n (.branch m cs' r') r) false k) : cd en nb na rm C (.branch m cs' r') false k ∧ cd en nb na rm C r' true (k + cl (.branch m cs' r') false) ∧ 0 < ts r' := by
  obtain ⟨h1, h2, h3, h4, h5⟩ := h
  rcases r' with _ | ⟨_, _, _⟩
  all_goals
    have w' : (if tK n = 12 then _ else if tK n = 13 then _ else if tK n = 14 then _ else if tK n = 15 then _ else if tK n = 16 then _ else _) := w
    rw [if_neg h1, if_neg h2, if_neg h3, if_neg h4, if_neg h5] at w'
    exact w'
/-- a SUM in order has a code, and needs a value -/
theorem cl_pos2 {sN : Int → Prop} {en : Int → Nat} {A : ab} : ∀ t, (wS sN en A t false → 1 ≤ cl t false ∧ 1 ≤ sh t false) ∧ (wS sN en A (tT t) false → 1 ≤ cl (tT t) false ∧ 1 ≤ sh (tT t) false) := by
  intro t
  induction t with
  | leaf u => exact ⟨fun w => absurd w (fun z => z), fun w => absurd w (fun z => z)⟩
  | branch n cs r ih1 ih2 =>
    refine ⟨fun w => ?_, ih2.1⟩
    by_cases k12 : tK n = 12
    · rw [cl_12 k12, sh_12 k12]; omega
    · by_cases k13 : tK n = 13
      · rw [cl_13 k13, sh_13 k13]; omega
      · by_cases k14 : tK n = 14
        · obtain ⟨m, cs', r', rfl, v1, v2, v3, v4, v5, v6⟩ := w_14 k14 w
          rw [cl_14 k14, sh_14 k14]
          have := ih1.2 v6
          exact ⟨by omega, this.2⟩
        · by_cases k15 : tK n = 15
          · have w' := w_15 k15 w
            have := ih1.1 w'
            rw [cl_15 k15, sh_15 k15]; omega
          · by_cases k16 : tK n = 16
            · rw [cl_16 k16, sh_16 k16]; omega
            · obtain ⟨m, cs', r', rfl, w1, w2⟩ := w_17 ⟨k12, k13, k14, k15, k16⟩ w
              have := ih1.1 w1
              rw [cl_17 ⟨k12, k13, k14, k15, k16⟩, sh_17 ⟨k12, k13, k14, k15, k16⟩]; omega
theorem cl_pos {sN : Int → Prop} {en : Int → Nat} {A : ab} {t : tr} (w : wS sN en A t false) : 1 ≤ cl t false ∧ 1 ≤ sh t false := (cl_pos2 t).1 w
end CLE
