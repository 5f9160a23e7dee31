set_option maxRecDepth 100000
/-! RUNS: whether a COND holds -/
abbrev yr : Type := Option Bool × Int32 × Nat
def y_bi (q : yr) (f : Bool → Nat → yr) : yr := match q.1 with
  | none => q
  | some b => f b q.2.2
def y_v (q : xr) (f : Int → Nat → yr) : yr := match q.1 with
  | none => (none, q.2.1, q.2.2)
  | some v => f v q.2.2
def x_rel (k : Nat) (v w : Int) : Bool := if k = 27 then decide (v < w) else if k = 28 then decide (v ≤ w) else if k = 29 then decide (w < v) else if k = 30 then decide (w ≤ v) else if k = 31 then decide (v = w) else decide (¬ v = w)
/-- mode false: the first node's; true: through the row, as long as they are an -/
def xh (en : Int → Nat) (V P : Nat → Int32) (rm : Nat → Nat) (N : Nat → Int32) (g : Nat) : tr → Bool → Bool → Nat → yr
  | .leaf _, _, an, c => (some an, 0, c)
  | .branch n cs r, mo, an, c =>
    (fun x : yr => if mo = true then y_bi x (fun b c' => if b = an then xh en V P rm N g r true an c' else (some b, 0, c')) else x)
      (if tK n = 26 then y_bi (xh en V P rm N g cs false false c) (fun b c' => (some (!b), 0, c'))
        else if tK n = 24 ∨ tK n = 25 then xh en V P rm N g cs true (decide (tK n = 25)) c
        else y_v (xv en V P rm N g cs none c) (fun v c' => y_v (xv en V P rm N g (tT cs) none c') (fun w c' => (some (x_rel (tK n) v w), 0, c'))))
section XHs
variable {en : Int → Nat} {V P : Nat → Int32} {rm : Nat → Nat} {N : Nat → Int32} {g n m c : Nat} {cs r : tr} {an : Bool}
theorem xh_26 (h : tK n = 26) : xh en V P rm N g (.branch n cs r) false an c = y_bi (xh en V P rm N g cs false false c) (fun b c' => (some (!b), 0, c')) := by
  show (if tK n = 26 then _ else _) = _
  rw [if_pos h]
theorem xh_25 (h : tK n = 24 ∨ tK n = 25) : xh en V P rm N g (.branch n cs r) false an c = xh en V P rm N g cs true (decide (tK n = 25)) c := by
  show (if tK n = 26 then _ else if tK n = 24 ∨ tK n = 25 then _ else _) = _
  rw [if_neg (by omega), if_pos h]
theorem xh_27 (h : 27 ≤ tK n) : xh en V P rm N g (.branch n cs r) false an c = y_v (xv en V P rm N g cs none c) (fun v c' => y_v (xv en V P rm N g (tT cs) none c') (fun w c' => (some (x_rel (tK n) v w), 0, c'))) := by
  show (if tK n = 26 then _ else if tK n = 24 ∨ tK n = 25 then _ else _) = _
  rw [if_neg (by omega), if_neg (by omega)]
theorem xh_L : xh en V P rm N g (.branch n cs r) true an c = y_bi (xh en V P rm N g (.branch n cs r) false an c) (fun b c' => if b = an then xh en V P rm N g r true an c' else (some b, 0, c')) := rfl
theorem xh_F {an' : Bool} : xh en V P rm N g (.branch n cs r) false an c = xh en V P rm N g (.branch n cs r) false an' c := rfl
end XHs
/-- the codes of a COND, with where an operand that isn't needed ends -/
def cy (KK WW : Nat → Int32) (rel : tr → Nat → Prop) : tr → Bool → Bool → Nat → Nat → Prop
  | .leaf _, mo, _, k, k' => mo = true ∧ k' = k
  | .branch n cs r, mo, an, k, k' =>
    (fun node : Nat → Nat → Prop => if mo = true then ∃ k1, KK k = (if an = true then 132 else 133) ∧ WW k = Int32.ofNat (k1 + 1) ∧ node (k + 1) k1 ∧ KK k1 = (if an = true then 134 else 135) ∧ cy KK WW rel r true an (k1 + 1) k' else node k k')
      (fun a b => if tK n = 26 then ∃ b', b = b' + 1 ∧ cy KK WW rel cs false false a b' ∧ KK b' = 33
        else if tK n = 24 ∨ tK n = 25 then (match cs with
          | .leaf _ => False
          | .branch m c' r' => ∃ k1, cy KK WW rel (.branch m c' r') false false a k1 ∧ cy KK WW rel r' true (decide (tK n = 25)) k1 b)
        else (27 ≤ tK n ∧ tK n ≤ 32) ∧ KK a = kd (tK n - 27) ∧ rel cs a ∧ b = a + 1)
section CYs
variable {KK WW : Nat → Int32} {rel : tr → Nat → Prop} {n : Nat} {cs r : tr} {an : Bool} {k k' : Nat}
theorem cy_L (w : cy KK WW rel (.branch n cs r) true an k k') : ∃ k1, KK k = (if an = true then 132 else 133) ∧ WW k = Int32.ofNat (k1 + 1) ∧ cy KK WW rel (.branch n cs r) false false (k + 1) k1 ∧ KK k1 = (if an = true then 134 else 135) ∧ cy KK WW rel r true an (k1 + 1) k' := by
  rcases cs with _ | ⟨_, _, _⟩
  · exact w
  · exact w
theorem cy_26 (h : tK n = 26) (w : cy KK WW rel (.branch n cs r) false an k k') : ∃ b', k' = b' + 1 ∧ cy KK WW rel cs false false k b' ∧ KK b' = 33 := by
  rcases cs with _ | ⟨_, _, _⟩
  all_goals
    have w' : (if tK n = 26 then _ else _) := w
    rw [if_pos h] at w'
    exact w'
theorem cy_25 (h : tK n = 24 ∨ tK n = 25) (w : cy KK WW rel (.branch n cs r) false an k k') : ∃ k1, cy KK WW rel cs false false k k1 ∧ cy KK WW rel (tT cs) true (decide (tK n = 25)) k1 k' := by
  rcases cs with _ | ⟨_, _, _⟩
  all_goals
    have w' : (if tK n = 26 then _ else if tK n = 24 ∨ tK n = 25 then _ else _) := w
    rw [if_neg (by omega), if_pos h] at w'
  · exact w'.elim
  · exact w'
theorem cy_27 (h : ¬ tK n = 26) (h2 : ¬ (tK n = 24 ∨ tK n = 25)) (w : cy KK WW rel (.branch n cs r) false an k k') : (27 ≤ tK n ∧ tK n ≤ 32) ∧ KK k = kd (tK n - 27) ∧ rel cs k ∧ k' = k + 1 := by
  rcases cs with _ | ⟨_, _, _⟩
  all_goals
    have w' : (if tK n = 26 then _ else if tK n = 24 ∨ tK n = 25 then _ else _) := w
    rw [if_neg h, if_neg h2] at w'
    exact w'
theorem cy_le2 : ∀ t, (∀ mo an k k', cy KK WW rel t mo an k k' → k ≤ k' ∧ (mo = false → k < k')) ∧ (∀ mo an k k', cy KK WW rel (tT t) mo an k k' → k ≤ k' ∧ (mo = false → k < k')) := by
  intro t
  have L0 : ∀ (u : Unit) mo an k k', cy KK WW rel (.leaf u) mo an k k' → k ≤ k' ∧ (mo = false → k < k') := fun u mo an k k' w => ⟨Nat.le_of_eq w.2.symm, fun z => by rw [w.1] at z; cases z⟩
  induction t with
  | leaf u => exact ⟨L0 u, L0 u⟩
  | branch n cs r i1 i2 =>
    have F : ∀ an k k', cy KK WW rel (.branch n cs r) false an k k' → k < k' := fun an k k' w => by
      by_cases k26 : tK n = 26
      · obtain ⟨b', e, w1, -⟩ := cy_26 k26 w
        have := (i1.1 _ _ _ _ w1).1
        omega
      · by_cases k25 : tK n = 24 ∨ tK n = 25
        · obtain ⟨k1, w1, w2⟩ := cy_25 k25 w
          have := (i1.1 _ _ _ _ w1).2 rfl
          have := (i1.2 _ _ _ _ w2).1
          omega
        · obtain ⟨-, -, -, e⟩ := cy_27 k26 k25 w
          omega
    refine ⟨fun mo an k k' w => ?_, i2.1⟩
    cases mo with
    | false => exact ⟨Nat.le_of_lt (F an k k' w), fun _ => F an k k' w⟩
    | true =>
      obtain ⟨k1, -, -, w1, -, w2⟩ := cy_L w
      have := F _ _ _ w1
      have := (i2.1 _ _ _ _ w2).1
      exact ⟨by omega, fun z => by cases z⟩
theorem cy_le {t : tr} {mo : Bool} (w : cy KK WW rel t mo an k k') : k ≤ k' ∧ (mo = false → k < k') := (cy_le2 t).1 _ _ _ _ w
end CYs
