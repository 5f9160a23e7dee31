set_option maxRecDepth 100000
/-! names, as both sides write them -/
section NAs
variable {Bt : Nat → Int32} {n : Nat}
theorem tk_mem : ∀ (T : tks) i, i < T.length → (tkK T i, tkPl T i, tkWd T i) ∈ T := by
  intro T
  induction T with
  | nil => exact fun i hi => absurd hi (Nat.not_lt_zero _)
  | cons x r ih =>
    intro i hi
    cases i with
    | zero => exact List.mem_cons_self
    | succ i => exact List.mem_cons_of_mem _ (ih i (Nat.lt_of_succ_lt_succ hi))
theorem scn_w : ∀ f i t, t ∈ scn Bt n f i → t.1 = 0 ∨ t.2.2 = tkW Bt n t.2.1 := by
  intro f
  induction f with
  | zero =>
    intro i t q
    have q' : t ∈ [((0 : Int32), n, 0)] := q
    rcases List.mem_cons.mp q' with e | e
    · left
      rw [e]
    · cases e
  | succ f ih =>
    intro i t q
    have q' : t ∈ (if i < n then (if tkD Bt n i = 1 then [(1, i, tkW Bt n i)] else (tkD Bt n i, i, tkW Bt n i) :: scn Bt n f (bl Bt n (n - (i + tkW Bt n i)) false (i + tkW Bt n i))) else [(0, n, 0)]) := q
    split at q'
    · split at q'
      · rcases List.mem_cons.mp q' with e | e
        · right
          rw [e]
        · cases e
      · rcases List.mem_cons.mp q' with e | e
        · right
          rw [e]
        · exact ih _ t e
    · rcases List.mem_cons.mp q' with e | e
      · left
        rw [e]
      · cases e
/-- a NAME's width -/
theorem nm_w {i : Nat} (k2 : tkK (toks Bt n) i = 2) : tkWd (toks Bt n) i = cw (fun c => isL c || isG c) Bt (n - tkPl (toks Bt n) i) (tkPl (toks Bt n) i) ∧ tkWd (toks Bt n) i ≤ 30 := by
  have hi := tk_2 i k2
  obtain ⟨-, -, g3, -, g5, -⟩ := tkG_i _ 0 i (toks_G (B := Bt) (n := n)) hi
  have n0 : (2 : Int32) ≠ 0 := by decide
  have n1 : (2 : Int32) ≠ 1 := by decide
  obtain ⟨w1, -⟩ := g3 (by rw [k2]; exact n0) (by rw [k2]; exact n1)
  obtain ⟨l1, -⟩ := g5 k2
  have q := scn_w n (bl Bt n n false 0) _ (tk_mem (toks Bt n) i hi)
  rcases q with q | q
  · have q' : tkK (toks Bt n) i = 0 := q
    rw [k2] at q'
    exact absurd q' n0
  · have q' : tkWd (toks Bt n) i = tkW Bt n (tkPl (toks Bt n) i) := q
    unfold tkW at q'
    rw [if_pos l1] at q'
    by_cases c : cw (fun c => isL c || isG c) Bt (n - tkPl (toks Bt n) i) (tkPl (toks Bt n) i) ≤ 30
    · rw [if_pos c] at q'
      exact ⟨q', by omega⟩
    · rw [if_neg c] at q'
      omega
theorem nm_X {i : Nat} (k2 : tkK (toks Bt n) i = 2) : nmX Bt n (tkPl (toks Bt n) i) = nmB Bt (tkWd (toks Bt n) i) (tkPl (toks Bt n) i) ∧ (nmX Bt n (tkPl (toks Bt n) i)).length ≤ 30 := by
  obtain ⟨a1, a2⟩ := nm_w k2
  have e : nmX Bt n (tkPl (toks Bt n) i) = nmB Bt (tkWd (toks Bt n) i) (tkPl (toks Bt n) i) := by
    unfold nmX
    rw [← a1]
  exact ⟨e, by rw [e, nmB_len]; exact a2⟩
theorem nmB_at : ∀ w p j v, (nmB Bt w p)[j]? = some v → j < w ∧ v = Bt (p + j) := by
  intro w
  induction w with
  | zero => exact fun p j v e => by cases e
  | succ w ih =>
    intro p j v e
    cases j with
    | zero =>
      have e' : some (Bt p) = some v := e
      cases e'
      exact ⟨by omega, rfl⟩
    | succ j =>
      have e' : (nmB Bt w (p + 1))[j]? = some v := e
      obtain ⟨a1, a2⟩ := ih (p + 1) j v e'
      exact ⟨by omega, by rw [a2, show p + 1 + j = p + (j + 1) from by omega]⟩
theorem nmB_eq : ∀ w p p', (∀ j, j < w → Bt (p + j) = Bt (p' + j)) → nmB Bt w p = nmB Bt w p' := by
  intro w
  induction w with
  | zero => exact fun _ _ _ => rfl
  | succ w ih =>
    intro p p' q
    show Bt p :: nmB Bt w (p + 1) = Bt p' :: nmB Bt w (p' + 1)
    rw [ih (p + 1) (p' + 1) (fun j hj => by rw [show p + 1 + j = p + (j + 1) from by omega, show p' + 1 + j = p' + (j + 1) from by omega]; exact q (j + 1) (by omega))]
    have := q 0 (by omega)
    rw [Nat.add_zero, Nat.add_zero] at this
    rw [this]
theorem lsN_t {U : Nat → Nat} : ∀ (L : List Nat) k a, L[k]? = some a → lsN U (L.take (k + 1)) = lsN U (L.take k) + U a := by
  intro L
  induction L with
  | nil => exact fun k a e => by cases e
  | cons x r ih =>
    intro k a e
    cases k with
    | zero =>
      have e' : some x = some a := e
      cases e'
      show U x + lsN U ((r).take 0) = 0 + U x
      rw [List.take_zero]
      show U x + 0 = 0 + U x
      omega
    | succ k =>
      have := ih k a e
      show U x + lsN U (r.take (k + 1)) = U x + lsN U (r.take k) + U a
      omega
/-- a name in the reference's rows spells what the class writes -/
theorem NMl_of {h h1 : mh_H} {NL : List Nat} {c : Nat} (hn : n ≤ 10300) (I : KPI h n (toks Bt n).length Bt (tkK (toks Bt n)) (tkPl (toks Bt n)) (tkWd (toks Bt n)) NL c) (e8 : mh_i h1 98 = mh_i h 98) (e9 : mh_i h1 99 = mh_i h 99) {a : Nat} (k2 : tkK (toks Bt n) a = 2) (ka : nix (spe Bt n (tkPl (toks Bt n)) (tkWd (toks Bt n))) NL a < NL.length) : NMl h1 (nix (spe Bt n (tkPl (toks Bt n)) (tkWd (toks Bt n))) NL a) (nmX Bt n (tkPl (toks Bt n) a)) ∧ nix (spe Bt n (tkPl (toks Bt n)) (tkWd (toks Bt n))) NL a < 8300 := by
  obtain ⟨NT, NM, NG, -⟩ := I
  obtain ⟨r1, r2⟩ := nm_room NG
  obtain ⟨a', l1, s1⟩ := nix_yes NL ka
  obtain ⟨u1, u2⟩ := spe_i.mp s1
  obtain ⟨x1, x2⟩ := nm_X k2
  have ha := tk_2 a k2
  have pa := (tkG_i _ 0 a (toks_G (B := Bt) (n := n)) ha).2.1
  have m' : ∀ (L : List Nat), nmG (spe Bt n (tkPl (toks Bt n)) (tkWd (toks Bt n))) (tkK (toks Bt n)) (toks Bt n).length L → ∀ x, x ∈ L → x < (toks Bt n).length ∧ tkK (toks Bt n) x = 2 := by
    intro L
    induction L with
    | nil => exact fun _ x q => by cases q
    | cons y r ih =>
      intro g x q
      rcases List.mem_cons.mp q with e | e
      · rw [e]
        exact ⟨g.1.1, g.1.2.1⟩
      · exact ih g.2 x e
  obtain ⟨ha', k2'⟩ := m' NL NG a' (List.mem_of_getElem? l1)
  have pa' := (tkG_i _ 0 a' (toks_G (B := Bt) (n := n)) ha').2.1
  have eX : nmX Bt n (tkPl (toks Bt n) a) = nmB Bt (tkWd (toks Bt n) a') (tkPl (toks Bt n) a') := by
    rw [x1, u1]
    refine nmB_eq _ _ _ (fun j hj => ?_)
    have := u2 j (by rw [u1]; exact hj)
    have b1 : bt Bt n (tkPl (toks Bt n) a' + j) = Bt (tkPl (toks Bt n) a' + j) := if_pos (by omega)
    have b2 : bt Bt n (tkPl (toks Bt n) a + j) = Bt (tkPl (toks Bt n) a + j) := if_pos (by omega)
    rw [b1, b2] at this
    exact this.symm
  have ls := lsN_t (U := tkWd (toks Bt n)) NL _ a' l1
  have lm : ∀ (L : List Nat) k, lsN (tkWd (toks Bt n)) (L.take k) ≤ lsN (tkWd (toks Bt n)) L := by
    intro L
    induction L with
    | nil => exact fun k => by rw [List.take_nil]; exact Nat.le_refl _
    | cons y r ih =>
      intro k
      cases k with
      | zero => exact Nat.zero_le _
      | succ k =>
        have := ih k
        show tkWd (toks Bt n) y + lsN (tkWd (toks Bt n)) (r.take k) ≤ tkWd (toks Bt n) y + lsN (tkWd (toks Bt n)) r
        omega
  have lb := lm NL (nix (spe Bt n (tkPl (toks Bt n)) (tkWd (toks Bt n))) NL a + 1)
  refine ⟨⟨lsN (tkWd (toks Bt n)) (NL.take (nix (spe Bt n (tkPl (toks Bt n)) (tkWd (toks Bt n))) NL a)), by rw [e9]; exact NM.2.1 _ (by omega), by rw [e9, eX, nmB_len, ← ls]; exact NM.2.1 _ (by omega), by omega, by rw [eX, nmB_len, ← ls]; omega, fun j v hj => ?_⟩, by omega⟩
  rw [eX] at hj
  obtain ⟨j1, j2⟩ := nmB_at _ _ _ _ hj
  rw [e8, NM.2.2 _ a' l1 j j1, j2]
  exact NT.2.2.2.2.1 _ (by omega)
end NAs
