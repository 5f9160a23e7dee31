set_option maxRecDepth 100000
/-! the tokens of a text: kinds, places, the last one -/
def tkK (T : tks) (i : Nat) : Int32 := (T.getD i (0, 0, 0)).1
def tkPl (T : tks) (i : Nat) : Nat := (T.getD i (0, 0, 0)).2.1
def tkWd (T : tks) (i : Nat) : Nat := (T.getD i (0, 0, 0)).2.2
section TKs
variable {B : Nat → Int32} {n : Nat}
theorem scn_1 : ∀ f i, 1 ≤ (scn B n f i).length := by
  intro f i
  cases f with
  | zero => exact Nat.le_refl _
  | succ f =>
    show 1 ≤ (if i < n then (if tkD B n i = 1 then [(1, i, tkW B n i)] else (tkD B n i, i, tkW B n i) :: scn B n f (bl B n (n - (i + tkW B n i)) false (i + tkW B n i))) else [(0, n, 0)]).length
    split
    · split
      · exact Nat.le_refl _
      · rw [List.length_cons]; omega
    · exact Nat.le_refl _
theorem scn_M : ∀ f i, tkM (tkK (scn B n f i)) (scn B n f i).length := by
  intro f
  induction f with
  | zero =>
    intro i j hj
    have e : scn B n 0 i = [(0, n, 0)] := rfl
    rw [e] at hj ⊢
    have hj' : j < 1 := hj
    have : j = 0 := by omega
    subst this
    exact Or.inl rfl
  | succ f ih =>
    intro i j hj
    by_cases c : i < n
    · by_cases c1 : tkD B n i = 1
      · have e : scn B n (f + 1) i = [(1, i, tkW B n i)] := by show (if i < n then _ else _) = _; rw [if_pos c, if_pos c1]
        rw [e] at hj ⊢
        have hj' : j < 1 := hj
        have : j = 0 := by omega
        subst this
        exact Or.inr (Or.inl rfl)
      · have e : scn B n (f + 1) i = (tkD B n i, i, tkW B n i) :: scn B n f (bl B n (n - (i + tkW B n i)) false (i + tkW B n i)) := by show (if i < n then _ else _) = _; rw [if_pos c, if_neg c1]
        rw [e] at hj ⊢
        rw [List.length_cons] at hj ⊢
        have l1 := scn_1 (B := B) (n := n) f (bl B n (n - (i + tkW B n i)) false (i + tkW B n i))
        cases j with
        | zero => exact Or.inr (Or.inr (by omega))
        | succ j =>
          rcases ih (bl B n (n - (i + tkW B n i)) false (i + tkW B n i)) j (by omega) with z | z | z
          · exact Or.inl z
          · exact Or.inr (Or.inl z)
          · exact Or.inr (Or.inr (by omega))
    · have e : scn B n (f + 1) i = [(0, n, 0)] := by show (if i < n then _ else _) = _; rw [if_neg c]
      rw [e] at hj ⊢
      have hj' : j < 1 := hj
      have : j = 0 := by omega
      subst this
      exact Or.inl rfl
/-- all tokens but the last one go on -/
theorem toks_M : tkM (tkK (toks B n)) (toks B n).length := scn_M n _
end TKs
/-- the reference's rows, token by token -/
theorem tkQ_g {KK PP UU : Nat → Int32} : ∀ (T : tks) m i, tkQ KK PP UU m T → i < T.length → KK (m + i) = rkd (tkK T i) ∧ PP (m + i) = Int32.ofNat (tkPl T i) ∧ (tkK T i ≠ 1 → UU (m + i) = Int32.ofNat (tkWd T i)) := by
  intro T
  induction T with
  | nil => exact fun m i _ h => absurd h (Nat.not_lt_zero _)
  | cons a T ih =>
    intro m i w h
    obtain ⟨w1, w2⟩ := w
    cases i with
    | zero => exact w1
    | succ i =>
      rw [List.length_cons] at h
      have z := ih (m + 1) i w2 (by omega)
      rw [show m + 1 + i = m + (i + 1) from by omega] at z
      exact z
/-- the class's rows, token by token -/
theorem tkR_g {KK PP UU : Nat → Int32} : ∀ (T : tks) m i, tkR KK PP UU m T → i < T.length → KK (m + i) = tkK T i ∧ PP (m + i) = Int32.ofNat (tkPl T i) ∧ UU (m + i) = Int32.ofNat (tkWd T i) := by
  intro T
  induction T with
  | nil => exact fun m i _ h => absurd h (Nat.not_lt_zero _)
  | cons a T ih =>
    intro m i w h
    obtain ⟨w1, w2⟩ := w
    cases i with
    | zero => exact w1
    | succ i =>
      rw [List.length_cons] at h
      have z := ih (m + 1) i w2 (by omega)
      rw [show m + 1 + i = m + (i + 1) from by omega] at z
      exact z
