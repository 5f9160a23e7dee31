set_option maxRecDepth 100000
/-! trees: a row of nodes, each with a number (kind, place, value), the row of its children, and the rest of the row -/
abbrev tr : Type := Lean.RArray Unit
def tK (n : Nat) : Nat := n % 64
def tP (n : Nat) : Nat := n / 64 % 65536
def tV (n : Nat) : Int := if n / 4194304 % 2 = 0 then ((n / 8388608 : Nat) : Int) else -((n / 8388608 : Nat) : Int)
def tE (k p : Nat) (v : Int) : Nat := k + 64 * (p + 65536 * ((if v < 0 then 1 else 0) + 2 * v.natAbs))
theorem tE_K {k p : Nat} {v : Int} (hk : k < 64) : tK (tE k p v) = k := by unfold tK tE; omega
theorem tE_P {k p : Nat} {v : Int} (hk : k < 64) (hp : p < 65536) : tP (tE k p v) = p := by
  unfold tP tE
  generalize (if v < 0 then 1 else 0) + 2 * v.natAbs = w
  omega
theorem tE_V {k p : Nat} {v : Int} (hk : k < 64) (hp : p < 65536) : tV (tE k p v) = v := by
  unfold tV tE
  by_cases c : v < 0
  · rw [if_pos c]
    have e1 : (k + 64 * (p + 65536 * (1 + 2 * v.natAbs))) / 4194304 % 2 = 1 := by omega
    have e2 : (k + 64 * (p + 65536 * (1 + 2 * v.natAbs))) / 8388608 = v.natAbs := by omega
    rw [if_neg (by omega), e2]; omega
  · rw [if_neg c]
    have e1 : (k + 64 * (p + 65536 * (0 + 2 * v.natAbs))) / 4194304 % 2 = 0 := by omega
    have e2 : (k + 64 * (p + 65536 * (0 + 2 * v.natAbs))) / 8388608 = v.natAbs := by omega
    rw [if_pos e1, e2]; omega
/-- how many nodes, how high -/
def ts : tr → Nat
  | .leaf _ => 0
  | .branch _ cs r => 1 + ts cs + ts r
def th : tr → Nat
  | .leaf _ => 0
  | .branch _ cs r => max (1 + th cs) (th r)
/-- a row of nodes stands from k on in the rows of kinds, values and sizes -/
def nd (K V Z : Nat → Int32) : Nat → tr → Prop
  | _, .leaf _ => True
  | k, .branch n cs r => K k = Int32.ofNat (tK n) ∧ (V k).toInt = tV n ∧ Z k = Int32.ofNat (1 + ts cs) ∧ nd K V Z (k + 1) cs ∧ nd K V Z (k + 1 + ts cs) r
theorem nd_B {K V Z : Nat → Int32} {k n : Nat} {cs r : tr} : nd K V Z k (.branch n cs r) = (K k = Int32.ofNat (tK n) ∧ (V k).toInt = tV n ∧ Z k = Int32.ofNat (1 + ts cs) ∧ nd K V Z (k + 1) cs ∧ nd K V Z (k + 1 + ts cs) r) := rfl
theorem ts_B {n : Nat} {cs r : tr} : ts (.branch n cs r) = 1 + ts cs + ts r := rfl
theorem th_B {n : Nat} {cs r : tr} : th (.branch n cs r) = max (1 + th cs) (th r) := rfl
/-! the range of a SUM, by what is known; with the alarms -/
abbrev er : Type := Option (Int × Int) × Int32
def e_no : er := (none, 0)
def e_ints (a b : Int) : er := (if max a (-2147483648) ≤ min b 2147483647 then some (max a (-2147483648), min b 2147483647) else none, if a < -2147483648 ∨ 2147483647 < b then 1 else 0)
def e_al (x : Int32) (q : er) : er := (q.1, x ||| q.2)
/-- what comes of one, where it is something -/
def e_bi (q : er) (f : Int → Int → er) : er := match q.1 with
  | none => (none, q.2)
  | some ab => e_al q.2 (f ab.1 ab.2)
def e_bys (c d : Int) : List Int := (if c < 0 then [c, min d (-1)] else []) ++ (if 0 < d then [max c 1, d] else [])
def e_dv (c d : Int) : Int32 := if c ≤ 0 ∧ 0 ≤ d then 2 else 0
def e_over (a b c d : Int) : er := if c = 0 ∧ d = 0 then (none, 2) else e_al (e_dv c d) (e_ints ((e_bys c d).foldl (fun m y => min m (min (a.tdiv y) (b.tdiv y))) 9223372036854775807) ((e_bys c d).foldl (fun m y => max m (max (a.tdiv y) (b.tdiv y))) (-9223372036854775808)))
def e_rest (a b c d : Int) : er := if c = 0 ∧ d = 0 then (none, 2) else (some (if 0 ≤ a then 0 else max a (1 - max (max c (-c)) (max d (-d))), if b ≤ 0 then 0 else min b (max (max c (-c)) (max d (-d)) - 1)), e_dv c d)
def e_op (k : Nat) (a b c d : Int) : er :=
  if k = 18 then e_ints (a + c) (b + d)
  else if k = 19 then e_ints (a - d) (b - c)
  else if k = 21 then e_ints (min (min (a * c) (a * d)) (min (b * c) (b * d))) (max (max (a * c) (a * d)) (max (b * c) (b * d)))
  else if k = 22 then e_over a b c d
  else e_rest a b c d
def e_nm (A : ab) (k x y : Nat) (c d : Int) : er :=
  if x = y then (if k = 19 then (some (0, 0), 0) else e_ints (2 * c) (2 * d))
  else e_ints (-a_gr A (2 * x + 1) (oc_b (if k = 18 then 2 * y else 2 * y + 1))) (a_gr A (2 * x) (if k = 18 then 2 * y else 2 * y + 1))
def e_cell (A : ab) (x : Nat) (a b : Int) : er := (if max a 0 ≤ min b ((A.rm x : Int) - 1) then some (A.lo x, A.hi x) else none, if a < 0 ∨ (A.rm x : Int) ≤ b then 4 else 0)
/-- the first node's NAME, if it is one -/
def tN : tr → Option Int
  | .leaf _ => none
  | .branch n _ _ => if tK n = 13 then some (tV n) else none
def e_two (en : Int → Nat) (A : ab) (k : Nat) (nm nm2 : Option Int) (a b c d : Int) : er := match nm, nm2 with
  | some x, some y => if k = 18 ∨ k = 19 then e_nm A k (en x) (en y) c d else e_op k a b c d
  | _, _ => e_op k a b c d
/-- without more: the first node's; else what comes of a .. b by the operators that follow -/
def ev (en : Int → Nat) (A : ab) : tr → Option (Int × Int × Option Int) → er
  | .leaf _, none => (none, 0)
  | .leaf _, some q => (some (q.1, q.2.1), 0)
  | .branch n cs _, none =>
    if tK n = 12 then (some (tV n, tV n), 0)
    else if tK n = 13 then (some (-a_gr A (2 * en (tV n) + 1) (2 * en (tV n) + 1), a_gr A (2 * en (tV n)) (2 * en (tV n))), 0)
    else if tK n = 14 then (match cs with
      | .leaf _ => e_no
      | .branch m _ r' => e_bi (ev en A r' none) (e_cell A (en (tV m))))
    else if tK n = 15 then e_bi (ev en A cs none) (fun a b => e_ints (-b) (-a))
    else if tK n = 16 then (match cs with
      | .branch l _ (.branch g _ _) => (some (tV l, tV g), 0)
      | _ => (some (-2147483648, 2147483647), 0))
    else (match cs with
      | .leaf _ => e_no
      | .branch m cs' r' => e_bi (ev en A (.branch m cs' r') none) (fun a b => ev en A r' (some (a, b, if tK m = 13 then some (tV m) else none))))
  | .branch n cs r, some q => e_bi (ev en A cs none) (fun c d => e_bi (e_two en A (tK n) q.2.2 (tN cs) q.1 q.2.1 c d) (fun a b => ev en A r (some (a, b, none))))
theorem ev_0 {en : Int → Nat} {A : ab} {u : Unit} {q : Int × Int × Option Int} : ev en A (.leaf u) (some q) = (some (q.1, q.2.1), 0) := rfl
theorem ev_L {en : Int → Nat} {A : ab} {n : Nat} {cs r : tr} {q : Int × Int × Option Int} : ev en A (.branch n cs r) (some q) = e_bi (ev en A cs none) (fun c d => e_bi (e_two en A (tK n) q.2.2 (tN cs) q.1 q.2.1 c d) (fun a b => ev en A r (some (a, b, none)))) := rfl
theorem ev_12 {en : Int → Nat} {A : ab} {n : Nat} {cs r : tr} (h : tK n = 12) : ev en A (.branch n cs r) none = (some (tV n, tV n), 0) := by
  rcases cs with _ | ⟨_, _, _ | ⟨_, _, _⟩⟩
  all_goals
    show (if tK n = 12 then _ else _) = _
    rw [if_pos h]
theorem ev_13 {en : Int → Nat} {A : ab} {n : Nat} {cs r : tr} (h : tK n = 13) : ev en A (.branch n cs r) none = (some (-a_gr A (2 * en (tV n) + 1) (2 * en (tV n) + 1), a_gr A (2 * en (tV n)) (2 * en (tV n))), 0) := by
  rcases cs with _ | ⟨_, _, _ | ⟨_, _, _⟩⟩
  all_goals
    show (if tK n = 12 then _ else if tK n = 13 then _ else _) = _
    rw [if_neg (by omega), if_pos h]
theorem ev_14 {en : Int → Nat} {A : ab} {n m : Nat} {cs cs' r r' : tr} (h : tK n = 14) : ev en A (.branch n (.branch m cs' r') r) none = e_bi (ev en A r' none) (e_cell A (en (tV m))) := by
  show (if tK n = 12 then _ else if tK n = 13 then _ else if tK n = 14 then _ else _) = _
  rw [if_neg (by omega), if_neg (by omega), if_pos h]
theorem ev_15 {en : Int → Nat} {A : ab} {n : Nat} {cs r : tr} (h : tK n = 15) : ev en A (.branch n cs r) none = e_bi (ev en A cs none) (fun a b => e_ints (-b) (-a)) := by
  rcases cs with _ | ⟨_, _, _ | ⟨_, _, _⟩⟩
  all_goals
    show (if tK n = 12 then _ else if tK n = 13 then _ else if tK n = 14 then _ else if tK n = 15 then _ else _) = _
    rw [if_neg (by omega), if_neg (by omega), if_neg (by omega), if_pos h]
theorem ev_16 {en : Int → Nat} {A : ab} {n : Nat} {u : Unit} {r : tr} (h : tK n = 16) : ev en A (.branch n (.leaf u) r) none = (some (-2147483648, 2147483647), 0) := by
  show (if tK n = 12 then _ else if tK n = 13 then _ else if tK n = 14 then _ else if tK n = 15 then _ else if tK n = 16 then _ else _) = _
  rw [if_neg (by omega), if_neg (by omega), if_neg (by omega), if_neg (by omega), if_pos h]
theorem ev_16b {en : Int → Nat} {A : ab} {n l g : Nat} {c1 c2 r2 r : tr} (h : tK n = 16) : ev en A (.branch n (.branch l c1 (.branch g c2 r2)) r) none = (some (tV l, tV g), 0) := by
  show (if tK n = 12 then _ else if tK n = 13 then _ else if tK n = 14 then _ else if tK n = 15 then _ else if tK n = 16 then _ else _) = _
  rw [if_neg (by omega), if_neg (by omega), if_neg (by omega), if_neg (by omega), if_pos h]
theorem ev_17 {en : Int → Nat} {A : ab} {n m : Nat} {cs' r r' : tr} (h : ¬ tK n = 12 ∧ ¬ tK n = 13 ∧ ¬ tK n = 14 ∧ ¬ tK n = 15 ∧ ¬ tK n = 16) : ev en A (.branch n (.branch m cs' r') r) none = e_bi (ev en A (.branch m cs' r') none) (fun a b => ev en A r' (some (a, b, if tK m = 13 then some (tV m) else none))) := by
  obtain ⟨h1, h2, h3, h4, h5⟩ := h
  show (if tK n = 12 then _ else if tK n = 13 then _ else if tK n = 14 then _ else if tK n = 15 then _ else if tK n = 16 then _ else _) = _
  rw [if_neg h1, if_neg h2, if_neg h3, if_neg h4, if_neg h5]
