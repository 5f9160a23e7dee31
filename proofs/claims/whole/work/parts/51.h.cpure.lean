set_option maxRecDepth 100000
/-! WHAT THE CLASS READS OF A SUM, pure: codes, parts, what is wrong first; over trees whose NAMEs are tokens -/
abbrev lkt : Type := Int → Option (Nat × Nat)
def lkN (lo : lkt) (v : Int) : Nat := match lo v with
  | none => 0
  | some q => q.1
def lkA (lo : lkt) (v : Int) : Nat × Nat := match lo v with
  | none => (0, 1)
  | some q => if 0 < q.2 then (q.1, q.2 % 128) else (0, 1)
/-- what is wrong with a NAME as a number, as an array -/
def lkW (lo : lkt) (v : Int) (ar : Bool) : Nat := match lo v with
  | none => 1
  | some q => if ar = true then (if 0 < q.2 then 0 else 3) else (if 0 < q.2 then 3 else 0)
def fw (a b : Nat × Nat) : Nat × Nat := if a.1 = 0 then b else a
def wn (a : Int32 × Int32) (b : Nat × Nat) : Int32 × Int32 := if a.1 = 0 ∧ b.1 ≠ 0 then (Int32.ofNat b.1, Int32.ofNat b.2) else a
/-- what is wrong first -/
def lwT (lo : lkt) : tr → Nat × Nat
  | .leaf _ => (0, 0)
  | .branch n cs r => fw (if tK n = 13 then (lkW lo (tV n) false, tP n) else if tK n = 14 then (match cs with
      | .branch m _ r' => fw (lkW lo (tV m) true, tP m) (lwT lo r')
      | .leaf _ => (0, 0)) else if tK n = 16 then (match cs with
      | .branch l _ (.branch g _ _) => if tV g < tV l then (8, tP l) else (0, 0)
      | _ => (0, 0)) else lwT lo cs) (lwT lo r)
/-- of a node -/
def lwN (lo : lkt) (n : Nat) (cs : tr) : Nat × Nat := if tK n = 13 then (lkW lo (tV n) false, tP n) else if tK n = 14 then (match cs with
      | .branch m _ r' => fw (lkW lo (tV m) true, tP m) (lwT lo r')
      | .leaf _ => (0, 0)) else if tK n = 16 then (match cs with
      | .branch l _ (.branch g _ _) => if tV g < tV l then (8, tP l) else (0, 0)
      | _ => (0, 0)) else lwT lo cs
def cdx (lo : lkt) (C : Nat → Int32) : tr → Bool → Nat → Prop
  | .leaf _, _, _ => True
  | .branch n cs _, false, k =>
    if tK n = 12 then C (3 * k) = 1 ∧ (C (3 * k + 1)).toInt = tV n
    else if tK n = 13 then C (3 * k) = 2 ∧ C (3 * k + 1) = Int32.ofNat (lkN lo (tV n))
    else if tK n = 14 then (match cs with
      | .leaf _ => False
      | .branch m _ r' => cdx lo C r' false k ∧ C (3 * (k + cl r' false)) = 3 ∧ C (3 * (k + cl r' false) + 1) = Int32.ofNat (lkA lo (tV m)).1 ∧ C (3 * (k + cl r' false) + 2) = Int32.ofNat (lkA lo (tV m)).2)
    else if tK n = 15 then cdx lo C cs false k ∧ C (3 * (k + cl cs false)) = 5
    else if tK n = 16 then C (3 * k) = 4 ∧ (match cs with
      | .branch l _ (.branch g _ _) => (C (3 * k + 1)).toInt = tV l ∧ (C (3 * k + 2)).toInt = tV g
      | _ => (C (3 * k + 1)).toInt = -2147483648 ∧ (C (3 * k + 2)).toInt = 2147483647)
    else (match cs with
      | .leaf _ => False
      | .branch m c' r' => cdx lo C (.branch m c' r') false k ∧ cdx lo C r' true (k + cl (.branch m c' r') false) ∧ 0 < ts r')
  | .branch n cs r, true, k => cdx lo C cs false k ∧ C (3 * (k + cl cs false)) = opb (tK n) ∧ cdx lo C r true (k + cl cs false + 1)
/-- parts: where they end, turned or not, slots -/
def pax (lo : lkt) (E T W : Nat → Int32) : tr → Bool → Bool → Nat → Nat → Prop
  | .leaf _, _, _, _, _ => True
  | .branch n cs r, false, tu, q, k =>
    if tK n = 15 then pax lo E T W cs false (!tu) q k
    else if tK n = 17 then (match cs with
      | .leaf _ => False
      | .branch m c' r' => pax lo E T W (.branch m c' r') false tu q k ∧ pax lo E T W r' true tu (q + pn (.branch m c' r') false) (k + cl (.branch m c' r') false))
    else E q = Int32.ofNat (k + cl (.branch n cs r) false) ∧ T q = kb tu ∧ W q = (if tK n = 13 then Int32.ofNat (lkN lo (tV n)) else if tK n = 12 then -1 else -2)
  | .branch n cs r, true, tu, q, k => pax lo E T W cs false (if tK n = 18 then tu else !tu) q k ∧ pax lo E T W r true tu (q + pn cs false) (k + cl cs false + 1)
section CXs
variable {lo : lkt} {C C' E T W E' T' W' : Nat → Int32} {n m k q : Nat} {cs cs' r r' r2 : tr} {tu : Bool} {a b c : Nat × Nat} {x : Int32 × Int32}
theorem fw_0 : fw (0, 0) b = b := rfl
theorem fw_z : fw a (0, 0) = if a.1 = 0 then (0, 0) else a := rfl
theorem wn_0 : wn x (0, 0) = x := if_neg (fun z => z.2 rfl)
theorem wn_n (h : ¬ x.1 = 0) : wn x b = x := if_neg (fun z => h z.1)
theorem wn_p (h : x.1 = 0) (hb : b.1 ≠ 0) : wn x b = (Int32.ofNat b.1, Int32.ofNat b.2) := if_pos ⟨h, hb⟩
theorem wn_o (hb : b.1 = 0) : wn x b = x := if_neg (fun z => z.2 hb)
theorem wn_fw (ha : a.1 < 100) : wn (wn x a) b = wn x (fw a b) := by
  by_cases c1 : x.1 = 0
  · by_cases c2 : a.1 = 0
    · rw [wn_o c2, show fw a b = b from if_pos c2]
    · rw [wn_p c1 c2, show fw a b = a from if_neg c2, wn_p c1 c2]
      exact wn_n (fun z => c2 (by
        have e := congrArg Int32.toInt z
        rw [nn_int (by omega)] at e
        have e0 : (0 : Int32).toInt = 0 := rfl
        omega))
  · rw [wn_n c1, wn_n c1, wn_n c1]
theorem wn_z (x : Int32 × Int32) (a : Nat × Nat) : wn x (fw a (0, 0)) = wn x a := by
  rw [fw_z]
  by_cases c : a.1 = 0
  · rw [if_pos c, wn_0]; exact (if_neg (fun z => z.2 c)).symm
  · rw [if_neg c]
theorem fw_b (h1 : a.1 < 100) (h2 : b.1 < 100) : (fw a b).1 < 100 := by unfold fw; split <;> assumption
theorem lkW_b {v : Int} {ar : Bool} : lkW lo v ar < 100 := by
  unfold lkW
  split
  · decide
  · split
    · split <;> decide
    · split <;> decide
theorem lwT_B {a : Nat} : lwT lo (.branch a cs r) = fw (lwN lo a cs) (lwT lo r) := by rcases cs with _ | ⟨_, _, _ | ⟨_, _, _⟩⟩ <;> rfl
theorem lwN_13 (h : tK n = 13) : lwN lo n cs = (lkW lo (tV n) false, tP n) := if_pos h
theorem lwN_14 (h : tK n = 14) : lwN lo n (.branch m cs' r') = fw (lkW lo (tV m) true, tP m) (lwT lo r') := by
  show (if tK n = 13 then _ else if tK n = 14 then _ else _) = _
  rw [if_neg (by omega), if_pos h]
theorem lwN_16 {u : Unit} (h : tK n = 16) : lwN lo n (.leaf u) = (0, 0) := by
  show (if tK n = 13 then _ else if tK n = 14 then _ else if tK n = 16 then _ else _) = _
  rw [if_neg (by omega), if_neg (by omega), if_pos h]
theorem lwN_16b {l g : Nat} {c1 c2 r3 : tr} (h : tK n = 16) : lwN lo n (.branch l c1 (.branch g c2 r3)) = if tV g < tV l then (8, tP l) else (0, 0) := by
  show (if tK n = 13 then _ else if tK n = 14 then _ else if tK n = 16 then _ else _) = _
  rw [if_neg (by omega), if_neg (by omega), if_pos h]
theorem lwN_o (h1 : ¬ tK n = 13) (h2 : ¬ tK n = 14) (h3 : ¬ tK n = 16) : lwN lo n cs = lwT lo cs := by
  show (if tK n = 13 then _ else if tK n = 14 then _ else if tK n = 16 then _ else _) = _
  rw [if_neg h1, if_neg h2, if_neg h3]
theorem lwT_b : ∀ t : tr, (lwT lo t).1 < 100 ∧ (lwT lo (tT t)).1 < 100 := by
  intro t
  induction t with
  | leaf u => exact ⟨by show (0 : Nat) < 100; decide, by show (0 : Nat) < 100; decide⟩
  | branch n cs r ih1 ih2 =>
    refine ⟨?_, ih2.1⟩
    rw [lwT_B]
    refine fw_b ?_ ih2.1
    unfold lwN
    split
    · exact lkW_b
    · split
      · cases cs with
        | leaf _ => show (0 : Nat) < 100; decide
        | branch m c r' => exact fw_b lkW_b ih1.2
      · split
        · rcases cs with _ | ⟨l, _, _ | ⟨g, _, _⟩⟩
          · show (0 : Nat) < 100; decide
          · show (0 : Nat) < 100; decide
          · show (if tV g < tV l then (8, tP l) else (0, 0)).1 < 100
            split
            · show (8 : Nat) < 100; decide
            · show (0 : Nat) < 100; decide
        · exact ih1.1
theorem cl_o : cl (.branch n cs r) false = cl (.branch n cs r2) false := by rcases cs with _ | ⟨_, _, _ | ⟨_, _, _⟩⟩ <;> rfl
theorem pn_o : pn (.branch n cs r) false = pn (.branch n cs r2) false := by rcases cs with _ | ⟨_, _, _⟩ <;> rfl
theorem cdx_o : cdx lo C (.branch n cs r) false k = cdx lo C (.branch n cs r2) false k := by rcases cs with _ | ⟨_, _, _ | ⟨_, _, _⟩⟩ <;> rfl
theorem pax_o : pax lo E T W (.branch n cs r) false tu q k = pax lo E T W (.branch n cs r2) false tu q k := by
  rcases cs with _ | ⟨a, b, c⟩
  · show (if tK n = 15 then _ else if tK n = 17 then _ else E q = Int32.ofNat (k + cl (.branch n (.leaf _) r) false) ∧ _) = (if tK n = 15 then _ else if tK n = 17 then _ else E q = Int32.ofNat (k + cl (.branch n (.leaf _) r2) false) ∧ _)
    rw [cl_o (r := r) (r2 := r2)]
  · show (if tK n = 15 then _ else if tK n = 17 then _ else E q = Int32.ofNat (k + cl (.branch n (.branch a b c) r) false) ∧ _) = (if tK n = 15 then _ else if tK n = 17 then _ else E q = Int32.ofNat (k + cl (.branch n (.branch a b c) r2) false) ∧ _)
    rw [cl_o (r := r) (r2 := r2)]
theorem cdx_L : cdx lo C (.branch n cs r) true k = (cdx lo C cs false k ∧ C (3 * (k + cl cs false)) = opb (tK n) ∧ cdx lo C r true (k + cl cs false + 1)) := by rcases cs with _ | ⟨_, _, _ | ⟨_, _, _⟩⟩ <;> rfl
theorem cdx_12 (h : tK n = 12) : cdx lo C (.branch n cs r) false k = (C (3 * k) = 1 ∧ (C (3 * k + 1)).toInt = tV n) := by
  rcases cs with _ | ⟨_, _, _ | ⟨_, _, _⟩⟩
  all_goals
    show (if tK n = 12 then _ else _) = _
    rw [if_pos h]
theorem cdx_13 (h : tK n = 13) : cdx lo C (.branch n cs r) false k = (C (3 * k) = 2 ∧ C (3 * k + 1) = Int32.ofNat (lkN lo (tV n))) := by
  rcases cs with _ | ⟨_, _, _ | ⟨_, _, _⟩⟩
  all_goals
    show (if tK n = 12 then _ else if tK n = 13 then _ else _) = _
    rw [if_neg (by omega), if_pos h]
theorem cdx_14 (h : tK n = 14) : cdx lo C (.branch n (.branch m cs' r') r) false k = (cdx lo C r' false k ∧ C (3 * (k + cl r' false)) = 3 ∧ C (3 * (k + cl r' false) + 1) = Int32.ofNat (lkA lo (tV m)).1 ∧ C (3 * (k + cl r' false) + 2) = Int32.ofNat (lkA lo (tV m)).2) := by
  rcases r' with _ | ⟨_, _, _⟩
  all_goals
    show (if tK n = 12 then _ else if tK n = 13 then _ else if tK n = 14 then _ else _) = _
    rw [if_neg (by omega), if_neg (by omega), if_pos h]
theorem cdx_15 (h : tK n = 15) : cdx lo C (.branch n cs r) false k = (cdx lo C cs false k ∧ C (3 * (k + cl cs false)) = 5) := by
  rcases cs with _ | ⟨_, _, _ | ⟨_, _, _⟩⟩
  all_goals
    show (if tK n = 12 then _ else if tK n = 13 then _ else if tK n = 14 then _ else if tK n = 15 then _ else _) = _
    rw [if_neg (by omega), if_neg (by omega), if_neg (by omega), if_pos h]
theorem cdx_16 {u : Unit} (h : tK n = 16) : cdx lo C (.branch n (.leaf u) r) false k = (C (3 * k) = 4 ∧ (C (3 * k + 1)).toInt = -2147483648 ∧ (C (3 * k + 2)).toInt = 2147483647) := by
  show (if tK n = 12 then _ else if tK n = 13 then _ else if tK n = 14 then _ else if tK n = 15 then _ else if tK n = 16 then _ else _) = _
  rw [if_neg (by omega), if_neg (by omega), if_neg (by omega), if_neg (by omega), if_pos h]
theorem cdx_16c {l : Nat} {c1 : tr} {u : Unit} (h : tK n = 16) : cdx lo C (.branch n (.branch l c1 (.leaf u)) r) false k = (C (3 * k) = 4 ∧ (C (3 * k + 1)).toInt = -2147483648 ∧ (C (3 * k + 2)).toInt = 2147483647) := by
  show (if tK n = 12 then _ else if tK n = 13 then _ else if tK n = 14 then _ else if tK n = 15 then _ else if tK n = 16 then _ else _) = _
  rw [if_neg (by omega), if_neg (by omega), if_neg (by omega), if_neg (by omega), if_pos h]
theorem cdx_16b {l g : Nat} {c1 c2 r3 : tr} (h : tK n = 16) : cdx lo C (.branch n (.branch l c1 (.branch g c2 r3)) r) false k = (C (3 * k) = 4 ∧ (C (3 * k + 1)).toInt = tV l ∧ (C (3 * k + 2)).toInt = tV g) := by
  show (if tK n = 12 then _ else if tK n = 13 then _ else if tK n = 14 then _ else if tK n = 15 then _ else if tK n = 16 then _ else _) = _
  rw [if_neg (by omega), if_neg (by omega), if_neg (by omega), if_neg (by omega), if_pos h]
theorem cdx_17 (h : ¬ tK n = 12 ∧ ¬ tK n = 13 ∧ ¬ tK n = 14 ∧ ¬ tK n = 15 ∧ ¬ tK n = 16) : cdx lo C (.branch n (.branch m cs' r') r) false k = (cdx lo C (.branch m cs' r') false k ∧ cdx lo C r' true (k + cl (.branch m cs' r') false) ∧ 0 < ts r') := by
  obtain ⟨h1, h2, h3, h4, h5⟩ := h
  rcases r' with _ | ⟨_, _, _⟩
  all_goals
    show (if tK n = 12 then _ else if tK n = 13 then _ else if tK n = 14 then _ else if tK n = 15 then _ else if tK n = 16 then _ else _) = _
    rw [if_neg h1, if_neg h2, if_neg h3, if_neg h4, if_neg h5]
theorem pax_15 (h : tK n = 15) : pax lo E T W (.branch n cs r) false tu q k = pax lo E T W cs false (!tu) q k := by
  rcases cs with _ | ⟨_, _, _⟩
  all_goals
    show (if tK n = 15 then _ else _) = _
    rw [if_pos h]
theorem pax_17 (h : tK n = 17) : pax lo E T W (.branch n (.branch m cs' r') r) false tu q k = (pax lo E T W (.branch m cs' r') false tu q k ∧ pax lo E T W r' true tu (q + pn (.branch m cs' r') false) (k + cl (.branch m cs' r') false)) := by
  show (if tK n = 15 then _ else if tK n = 17 then _ else _) = _
  rw [if_neg (by omega), if_pos h]
theorem pax_1 (h : ¬ tK n = 15) (h2 : ¬ tK n = 17) : pax lo E T W (.branch n cs r) false tu q k = (E q = Int32.ofNat (k + cl (.branch n cs r) false) ∧ T q = kb tu ∧ W q = (if tK n = 13 then Int32.ofNat (lkN lo (tV n)) else if tK n = 12 then -1 else -2)) := by
  rcases cs with _ | ⟨_, _, _⟩
  all_goals
    show (if tK n = 15 then _ else if tK n = 17 then _ else _) = _
    rw [if_neg h, if_neg h2]
theorem pax_L : pax lo E T W (.branch n cs r) true tu q k = (pax lo E T W cs false (if tK n = 18 then tu else !tu) q k ∧ pax lo E T W r true tu (q + pn cs false) (k + cl cs false + 1)) := by rcases cs with _ | ⟨_, _, _⟩ <;> rfl
/-- codes and parts elsewhere don't matter -/
theorem cdx_f : ∀ z t b k, ts t ≤ z → (∀ j, 3 * k ≤ j → j < 3 * (k + cl t b) → C' j = C j) → cdx lo C t b k → cdx lo C' t b k := by
  intro z
  induction z with
  | zero =>
    intro t b k hz e w
    cases t with
    | leaf _ => cases b <;> trivial
    | branch n cs r => have : 1 + ts cs + ts r ≤ 0 := hz; omega
  | succ z ih =>
    intro t b k hz e w
    cases t with
    | leaf _ => cases b <;> trivial
    | branch n cs r =>
      have hz' : 1 + ts cs + ts r ≤ z + 1 := hz
      cases b with
      | true =>
        rw [cdx_L] at w ⊢
        rw [cl_L] at e
        exact ⟨ih _ _ _ (by omega) (fun j j1 j2 => e j j1 (by omega)) w.1, (e _ (by omega) (by omega)).trans w.2.1, ih _ _ _ (by omega) (fun j j1 j2 => e j (by omega) (by omega)) w.2.2⟩
      | false =>
        by_cases k12 : tK n = 12
        · rw [cdx_12 k12] at w ⊢
          rw [cl_12 k12] at e
          exact ⟨(e _ (by omega) (by omega)).trans w.1, by rw [e _ (by omega) (by omega)]; exact w.2⟩
        by_cases k13 : tK n = 13
        · rw [cdx_13 k13] at w ⊢
          rw [cl_13 k13] at e
          exact ⟨(e _ (by omega) (by omega)).trans w.1, (e _ (by omega) (by omega)).trans w.2⟩
        by_cases k14 : tK n = 14
        · rcases cs with _ | ⟨m, c, r'⟩
          · exfalso
            have w' : (if tK n = 12 then _ else if tK n = 13 then _ else if tK n = 14 then False else _) := w
            rw [if_neg (by omega), if_neg (by omega), if_pos k14] at w'
            exact w'
          · have hz2 : 1 + (1 + ts c + ts r') + ts r ≤ z + 1 := hz
            rw [cdx_14 k14] at w ⊢
            rw [cl_14 k14] at e
            exact ⟨ih _ _ _ (by omega) (fun j j1 j2 => e j j1 (by omega)) w.1, (e _ (by omega) (by omega)).trans w.2.1, (e _ (by omega) (by omega)).trans w.2.2.1, (e _ (by omega) (by omega)).trans w.2.2.2⟩
        by_cases k15 : tK n = 15
        · rw [cdx_15 k15] at w ⊢
          rw [cl_15 k15] at e
          exact ⟨ih _ _ _ (by omega) (fun j j1 j2 => e j j1 (by omega)) w.1, (e _ (by omega) (by omega)).trans w.2⟩
        by_cases k16 : tK n = 16
        · rw [cl_16 k16] at e
          have e0 := e (3 * k) (by omega) (by omega)
          have e1 := e (3 * k + 1) (by omega) (by omega)
          have e2 := e (3 * k + 2) (by omega) (by omega)
          rcases cs with _ | ⟨l, c1, _ | ⟨g, c2, r3⟩⟩
          · rw [cdx_16 k16] at w ⊢
            rw [e0, e1, e2]; exact w
          · rw [cdx_16c k16] at w ⊢
            rw [e0, e1, e2]; exact w
          · rw [cdx_16b k16] at w ⊢
            rw [e0, e1, e2]; exact w
        · rcases cs with _ | ⟨m, c, r'⟩
          · exfalso
            have w' : (if tK n = 12 then _ else if tK n = 13 then _ else if tK n = 14 then _ else if tK n = 15 then _ else if tK n = 16 then _ else False) := w
            rw [if_neg k12, if_neg k13, if_neg k14, if_neg k15, if_neg k16] at w'
            exact w'
          · have hz2 : 1 + (1 + ts c + ts r') + ts r ≤ z + 1 := hz
            rw [cdx_17 ⟨k12, k13, k14, k15, k16⟩] at w ⊢
            rw [cl_17 ⟨k12, k13, k14, k15, k16⟩] at e
            exact ⟨ih _ _ _ (by show 1 + ts c + ts r' ≤ z; omega) (fun j j1 j2 => e j j1 (by omega)) w.1, ih _ _ _ (by omega) (fun j j1 j2 => e j (by omega) (by omega)) w.2.1, w.2.2⟩
theorem pax_f : ∀ z t b tu q k, ts t ≤ z → (∀ j, q ≤ j → j < q + pn t b → E' j = E j ∧ T' j = T j ∧ W' j = W j) → pax lo E T W t b tu q k → pax lo E' T' W' t b tu q k := by
  intro z
  induction z with
  | zero =>
    intro t b tu q k hz e w
    cases t with
    | leaf _ => cases b <;> trivial
    | branch n cs r => have : 1 + ts cs + ts r ≤ 0 := hz; omega
  | succ z ih =>
    intro t b tu q k hz e w
    cases t with
    | leaf _ => cases b <;> trivial
    | branch n cs r =>
      have hz' : 1 + ts cs + ts r ≤ z + 1 := hz
      cases b with
      | true =>
        rw [pax_L] at w ⊢
        rw [pn_L] at e
        exact ⟨ih _ _ _ _ _ (by omega) (fun j j1 j2 => e j j1 (by omega)) w.1, ih _ _ _ _ _ (by omega) (fun j j1 j2 => e j (by omega) (by omega)) w.2⟩
      | false =>
        by_cases k15 : tK n = 15
        · rw [pax_15 k15] at w ⊢
          rw [pn_15 k15] at e
          exact ih _ _ _ _ _ (by omega) e w
        by_cases k17' : tK n = 17
        · rcases cs with _ | ⟨m, c, r'⟩
          · exfalso
            have w' : (if tK n = 15 then _ else if tK n = 17 then False else _) := w
            rw [if_neg k15, if_pos k17'] at w'
            exact w'
          · have hz2 : 1 + (1 + ts c + ts r') + ts r ≤ z + 1 := hz
            rw [pax_17 k17'] at w ⊢
            rw [pn_17 k17'] at e
            exact ⟨ih _ _ _ _ _ (by show 1 + ts c + ts r' ≤ z; omega) (fun j j1 j2 => e j j1 (by omega)) w.1, ih _ _ _ _ _ (by omega) (fun j j1 j2 => e j (by omega) (by omega)) w.2⟩
        · rw [pax_1 k15 k17'] at w ⊢
          rw [pn_1 k15 k17'] at e
          obtain ⟨e1, e2, e3⟩ := e q (Nat.le_refl _) (by omega)
          exact ⟨e1.trans w.1, e2.trans w.2.1, e3.trans w.2.2⟩
end CXs
