set_option maxRecDepth 100000
/-! the codes of a COND -/
def cq (KK : Nat → Int32) (rel : tr → Nat → Prop) : tr → Bool → Bool → Nat → Nat → Prop
  | .leaf _, mo, _, k, k' => mo = true ∧ k' = k
  | .branch n cs r, mo, an, k, k' =>
    (fun node : Nat → Nat → Prop => if mo = true then ∃ k1, KK k = (if an = true then 132 else 133) ∧ node (k + 1) k1 ∧ KK k1 = (if an = true then 134 else 135) ∧ cq KK rel r true an (k1 + 1) k' else node k k')
      (fun a b => if tK n = 26 then ∃ b', b = b' + 1 ∧ cq KK rel cs false false a b' ∧ KK b' = 33
        else if tK n = 24 ∨ tK n = 25 then (match cs with
          | .leaf _ => False
          | .branch m c' r' => ∃ k1, cq KK rel (.branch m c' r') false false a k1 ∧ cq KK rel r' true (decide (tK n = 25)) k1 b)
        else (27 ≤ tK n ∧ tK n ≤ 32) ∧ KK a = kd (tK n - 27) ∧ rel cs a ∧ b = a + 1)
section CQs
variable {KK : Nat → Int32} {rel : tr → Nat → Prop} {n : Nat} {cs r : tr} {an : Bool} {k k' : Nat} {en : Int → Nat}
theorem cq_L (w : cq KK rel (.branch n cs r) true an k k') : ∃ k1, KK k = (if an = true then 132 else 133) ∧ cq KK rel (.branch n cs r) false false (k + 1) k1 ∧ KK k1 = (if an = true then 134 else 135) ∧ cq KK rel r true an (k1 + 1) k' := by
  rcases cs with _ | ⟨_, _, _⟩
  · exact w
  · exact w
theorem cq_26 (h : tK n = 26) (w : cq KK rel (.branch n cs r) false an k k') : ∃ b', k' = b' + 1 ∧ cq KK rel cs false false k b' ∧ KK b' = 33 := by
  rcases cs with _ | ⟨_, _, _⟩
  all_goals
    have w' : (if tK n = 26 then _ else _) := w
    rw [if_pos h] at w'
    exact w'
theorem cq_25 (h : tK n = 24 ∨ tK n = 25) (w : cq KK rel (.branch n cs r) false an k k') : ∃ m c' r' k1, cs = .branch m c' r' ∧ cq KK rel (.branch m c' r') false false k k1 ∧ cq KK rel r' true (decide (tK n = 25)) k1 k' := by
  rcases cs with _ | ⟨m, c', r'⟩
  · have w' : (if tK n = 26 then _ else if tK n = 24 ∨ tK n = 25 then False else _) := w
    rw [if_neg (by omega), if_pos h] at w'
    exact absurd w' (fun z => z)
  · have w' : (if tK n = 26 then _ else if tK n = 24 ∨ tK n = 25 then ∃ k1, cq KK rel (.branch m c' r') false false k k1 ∧ cq KK rel r' true (decide (tK n = 25)) k1 k' else _) := w
    rw [if_neg (by omega), if_pos h] at w'
    obtain ⟨k1, a, b⟩ := w'
    exact ⟨m, c', r', k1, rfl, a, b⟩
theorem cq_27 (h1 : ¬ tK n = 26) (h2 : ¬ (tK n = 24 ∨ tK n = 25)) (w : cq KK rel (.branch n cs r) false an k k') : (27 ≤ tK n ∧ tK n ≤ 32) ∧ KK k = kd (tK n - 27) ∧ rel cs k ∧ k' = k + 1 := by
  rcases cs with _ | ⟨_, _, _⟩
  all_goals
    have w' : (if tK n = 26 then _ else if tK n = 24 ∨ tK n = 25 then _ else _) := w
    rw [if_neg h1, if_neg h2] at w'
    exact w'
/-- codes go on -/
theorem cq_le : ∀ t, (∀ an k k', cq KK rel t false an k k' → k < k') ∧ (∀ an k k', cq KK rel t true an k k' → k ≤ k') ∧ (∀ an k k', cq KK rel (tT t) true an k k' → k ≤ k') := by
  have lf : ∀ u an k k', cq KK rel (.leaf u) true an k k' → k ≤ k' := fun u an k k' w => by
    have : true = true ∧ k' = k := w
    omega
  intro t
  induction t with
  | leaf u => exact ⟨fun an k k' w => by have q : false = true ∧ k' = k := w; exact absurd q.1 (by decide), lf u, lf u⟩
  | branch n cs r ih1 ih2 =>
    have f : ∀ an k k', cq KK rel (.branch n cs r) false an k k' → k < k' := fun an k k' w => by
      by_cases h : tK n = 26
      · obtain ⟨b', e, a, -⟩ := cq_26 h w
        have := ih1.1 _ _ _ a
        omega
      · by_cases h2 : tK n = 24 ∨ tK n = 25
        · obtain ⟨m, c', r', k1, rfl, a, b⟩ := cq_25 h2 w
          have := ih1.1 _ _ _ a
          have := ih1.2.2 _ _ _ b
          omega
        · have := (cq_27 h h2 w).2.2.2
          omega
    refine ⟨f, fun an k k' w => ?_, ih2.2.1⟩
    obtain ⟨k1, -, a, -, b⟩ := cq_L w
    have := f _ _ _ a
    have := ih2.2.1 _ _ _ b
    omega
/-- of nothing comes nothing -/
theorem spl_n : ∀ t an, spl en t true an none none = (none, none, 0) := by
  intro t
  induction t with
  | leaf u => intro an; rfl
  | branch n cs r _ ih =>
    intro an
    rw [spl_L, spl_N]
    have e : (if an = true then (none : Option ab) else none) = none := by split <;> rfl
    dsimp only
    rw [e]
    have : o_join none (none : Option ab) = none := rfl
    rw [this, ih]
    rfl
theorem spl_26' (h : tK n = 26) {m : Nat} {c' r' : tr} (hc : cs = .branch m c' r') {on : Option ab} : spl en (.branch n cs r) false false on none = s_sw (spl en cs false false on none) := by
  cases on with
  | none => rw [hc, spl_N, spl_N]; rfl
  | some A => exact spl_26 h
theorem spl_25' (h : tK n = 24 ∨ tK n = 25) {on : Option ab} : spl en (.branch n cs r) false false on none = s_fx (decide (tK n = 25)) (spl en cs true (decide (tK n = 25)) on none) := by
  cases on with
  | none =>
    rw [spl_N, spl_n]
    unfold s_fx s_sw
    split <;> rfl
  | some A => exact spl_25 h
theorem join_c {A : ab} {x y : Option ab} (h1 : okS A x) (h2 : okS A y) : o_join x y = o_join y x := by
  cases x with
  | none => cases y <;> rfl
  | some X =>
    cases y with
    | none => rfl
    | some Z =>
      obtain ⟨-, a1, a2, a3⟩ := h1 X rfl
      obtain ⟨-, b1, b2, b3⟩ := h2 Z rfl
      show some (a_join X Z) = some (a_join Z X)
      refine congrArg some (ab_ext (a1.trans b1.symm) (a2.trans b2.symm) (fun i j => ?_) (funext fun i => ?_) (funext fun i => ?_) (a3.trans b3.symm))
      · exact Int.max_comm _ _
      · exact Int.min_comm _ _
      · exact Int.max_comm _ _
end CQs
