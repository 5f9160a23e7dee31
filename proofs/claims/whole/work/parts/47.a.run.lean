set_option maxRecDepth 100000
/-! RUNS: the value of a SUM by the cells, the places and the inputs; with the trap -/
abbrev xr : Type := Option Int × Int32 × Nat
def x_tr (w : Int32) (c : Nat) : xr := (none, w, c)
def x_ok (v : Int) (c : Nat) : xr := (some v, 0, c)
def x_bi (q : xr) (f : Int → Nat → xr) : xr := match q.1 with
  | none => q
  | some v => f v q.2.2
def x_int (v : Int) (c : Nat) : xr := if v < -2147483648 ∨ 2147483647 < v then x_tr 1 c else x_ok v c
def x_f (k : Nat) (a b : Int) : Int := if k = 18 then a + b else if k = 19 then a - b else if k = 21 then a * b else if k = 22 then a.tdiv b else a.tmod b
def x_op (k : Nat) (a b : Int) (c : Nat) : xr := if (k = 22 ∨ k = 23) ∧ b = 0 then x_tr 2 c else x_int (x_f k a b) c
def x_in (N : Nat → Int32) (g c : Nat) : Int := if c < g then (N c).toInt else 0
def x_any (l g x : Int) : Int := if x < l ∨ g < x then l else x
/-- without more: the first node's; else what comes of a by the operators that follow -/
def xv (en : Int → Nat) (V P : Nat → Int32) (rm : Nat → Nat) (N : Nat → Int32) (g : Nat) : tr → Option Int → Nat → xr
  | .leaf _, none, c => x_ok 0 c
  | .leaf _, some a, c => x_ok a c
  | .branch n cs _, none, c =>
    if tK n = 12 then x_ok (tV n) c
    else if tK n = 13 then x_ok (V (en (tV n))).toInt c
    else if tK n = 14 then (match cs with
      | .leaf _ => x_ok 0 c
      | .branch m _ r' => x_bi (xv en V P rm N g r' none c) (fun i c' => if i < 0 ∨ (rm (en (tV m)) : Int) ≤ i then x_tr 4 c' else x_ok (P (64 * en (tV m) + i.toNat)).toInt c'))
    else if tK n = 15 then x_bi (xv en V P rm N g cs none c) (fun a c' => x_int (-a) c')
    else if tK n = 16 then (match cs with
      | .branch l _ (.branch u _ _) => x_ok (x_any (tV l) (tV u) (x_in N g c)) (c + 1)
      | _ => x_ok (x_in N g c) (c + 1))
    else (match cs with
      | .leaf _ => x_ok 0 c
      | .branch m cs' r' => x_bi (xv en V P rm N g (.branch m cs' r') none c) (fun a c' => xv en V P rm N g r' (some a) c'))
  | .branch n cs r, some a, c => x_bi (xv en V P rm N g cs none c) (fun b c' => x_bi (x_op (tK n) a b c') (fun v c' => xv en V P rm N g r (some v) c'))
section XVs
variable {en : Int → Nat} {V P : Nat → Int32} {rm : Nat → Nat} {N : Nat → Int32} {g n m c : Nat} {cs cs' r r' : tr} {a : Int}
theorem xv_0 {u : Unit} : xv en V P rm N g (.leaf u) (some a) c = x_ok a c := rfl
theorem xv_L : xv en V P rm N g (.branch n cs r) (some a) c = x_bi (xv en V P rm N g cs none c) (fun b c' => x_bi (x_op (tK n) a b c') (fun v c' => xv en V P rm N g r (some v) c')) := rfl
theorem xv_12 (h : tK n = 12) : xv en V P rm N g (.branch n cs r) none c = x_ok (tV n) c := by
  rcases cs with _ | ⟨_, _, _ | ⟨_, _, _⟩⟩
  all_goals
    show (if tK n = 12 then _ else _) = _
    rw [if_pos h]
theorem xv_13 (h : tK n = 13) : xv en V P rm N g (.branch n cs r) none c = x_ok (V (en (tV n))).toInt c := by
  rcases cs with _ | ⟨_, _, _ | ⟨_, _, _⟩⟩
  all_goals
    show (if tK n = 12 then _ else if tK n = 13 then _ else _) = _
    rw [if_neg (by omega), if_pos h]
theorem xv_14 (h : tK n = 14) : xv en V P rm N g (.branch n (.branch m cs' r') r) none c = x_bi (xv en V P rm N g r' none c) (fun i c' => if i < 0 ∨ (rm (en (tV m)) : Int) ≤ i then x_tr 4 c' else x_ok (P (64 * en (tV m) + i.toNat)).toInt c') := by
  show (if tK n = 12 then _ else if tK n = 13 then _ else if tK n = 14 then _ else _) = _
  rw [if_neg (by omega), if_neg (by omega), if_pos h]
theorem xv_15 (h : tK n = 15) : xv en V P rm N g (.branch n cs r) none c = x_bi (xv en V P rm N g cs none c) (fun a c' => x_int (-a) c') := by
  rcases cs with _ | ⟨_, _, _ | ⟨_, _, _⟩⟩
  all_goals
    show (if tK n = 12 then _ else if tK n = 13 then _ else if tK n = 14 then _ else if tK n = 15 then _ else _) = _
    rw [if_neg (by omega), if_neg (by omega), if_neg (by omega), if_pos h]
theorem xv_16 {u : Unit} (h : tK n = 16) : xv en V P rm N g (.branch n (.leaf u) r) none c = x_ok (x_in N g c) (c + 1) := by
  show (if tK n = 12 then _ else if tK n = 13 then _ else if tK n = 14 then _ else if tK n = 15 then _ else if tK n = 16 then _ else _) = _
  rw [if_neg (by omega), if_neg (by omega), if_neg (by omega), if_neg (by omega), if_pos h]
theorem xv_16b {l u : Nat} {c1 c2 r2 : tr} (h : tK n = 16) : xv en V P rm N g (.branch n (.branch l c1 (.branch u c2 r2)) r) none c = x_ok (x_any (tV l) (tV u) (x_in N g c)) (c + 1) := by
  show (if tK n = 12 then _ else if tK n = 13 then _ else if tK n = 14 then _ else if tK n = 15 then _ else if tK n = 16 then _ else _) = _
  rw [if_neg (by omega), if_neg (by omega), if_neg (by omega), if_neg (by omega), if_pos h]
theorem xv_17 (h : ¬ tK n = 12 ∧ ¬ tK n = 13 ∧ ¬ tK n = 14 ∧ ¬ tK n = 15 ∧ ¬ tK n = 16) : xv en V P rm N g (.branch n (.branch m cs' r') r) none c = x_bi (xv en V P rm N g (.branch m cs' r') none c) (fun a c' => xv en V P rm N g r' (some a) c') := by
  obtain ⟨h1, h2, h3, h4, h5⟩ := h
  show (if tK n = 12 then _ else if tK n = 13 then _ else if tK n = 14 then _ else if tK n = 15 then _ else if tK n = 16 then _ else _) = _
  rw [if_neg h1, if_neg h2, if_neg h3, if_neg h4, if_neg h5]
theorem x_in_I : iI (x_in N g c) := by
  unfold x_in iI
  split
  · have a := Int32.le_toInt (N c)
    have b := Int32.toInt_lt (N c)
    omega
  · omega
theorem x_any_I {l u x : Int} (hl : iI l) (hx : iI x) : iI (x_any l u x) := by
  unfold x_any
  split
  · exact hl
  · exact hx
theorem i32_I (x : Int32) : iI x.toInt := by
  have a := Int32.le_toInt x
  have b := Int32.toInt_lt x
  unfold iI
  omega
theorem x_int_I {v w : Int} (h : (x_int v c).1 = some w) : iI w := by
  unfold x_int at h
  split at h
  · cases h
  · cases h; unfold iI; omega
end XVs
