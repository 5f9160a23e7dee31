set_option maxRecDepth 100000
/-! TEXTS: what is shown, pure -/
/-- a string of the start -/
def xT (j : Nat) : Nat → Nat → List Int32
  | 0, _ => []
  | f + 1, i => xB j i :: xT j f (i + 1)
def xW (j : Nat) : List Int32 := xT j (xL j) 0
/-- bytes of the text that was read -/
def nmB (Bt : Nat → Int32) : Nat → Nat → List Int32
  | 0, _ => []
  | w + 1, p => Bt p :: nmB Bt w (p + 1)
/-- the greatest unit that a size has -/
def uni : Nat → Nat → Nat → Nat
  | 0, _, u => u
  | f + 1, s, u => if 10 ≤ s / u then uni f s (10 * u) else u
def dgs : Nat → Nat → Nat → List Int32
  | 0, _, _ => []
  | f + 1, s, u => if u = 0 then [] else Int32.ofNat (48 + s / u % 10) :: dgs f s (u / 10)
def nbT (v : Int) : List Int32 := (if v < 0 then [45] else []) ++ dgs 11 v.natAbs (uni 10 v.natAbs 1)
/-- some rounds, one behind another -/
def itr (g : Nat → List Int32 → List Int32) : Nat → Nat → List Int32 → List Int32
  | 0, _, L => L
  | k + 1, x, L => itr g k (x + 1) (g x L)
def wCm (L : List Int32) : List Int32 := if L.length = 0 then L else L ++ [44, 32]
/-- a number's range -/
def gNm (nm : Nat → List Int32) (lo hi : Nat → Int) (x : Nat) (L : List Int32) : List Int32 := wCm L ++ nm x ++ [32, 105, 110, 32] ++ nbT (lo x) ++ [46, 46] ++ nbT (hi x)
/-- a pair -/
def gPr (nm : Nat → List Int32) (A : ab) (i j : Nat) (L : List Int32) : List Int32 := if a_gr A i j < a_gr A i i + a_gr A j j then wCm L ++ (if i % 2 = 1 then [45] else []) ++ nm (i / 2) ++ (if j % 2 = 1 then [32, 45, 32] else [32, 43, 32]) ++ nm (j / 2) ++ [32, 60, 61, 32] ++ nbT (a_gr A i j) else L
def gP4 (nm : Nat → List Int32) (A : ab) (x y : Nat) (L : List Int32) : List Int32 := gPr nm A (2 * x + 1) (2 * y + 1) (gPr nm A (2 * x + 1) (2 * y) (gPr nm A (2 * x) (2 * y + 1) (gPr nm A (2 * x) (2 * y) L)))
/-- an array's range -/
def gAr (am : Nat → List Int32) (A : ab) (x : Nat) (L : List Int32) : List Int32 := wCm L ++ am x ++ [91, 93, 32, 105, 110, 32] ++ nbT (A.lo x) ++ [46, 46] ++ nbT (A.hi x)
def shN (nm : Nat → List Int32) (A : ab) : List Int32 := itr (gNm nm (fun x => -a_gr A (2 * x + 1) (2 * x + 1)) (fun x => a_gr A (2 * x) (2 * x))) A.n 0 []
def shP (nm : Nat → List Int32) (A : ab) (L : List Int32) : List Int32 := itr (fun x L => itr (gP4 nm A x) (A.n - (x + 1)) (x + 1) L) A.n 0 L
def shA (am : Nat → List Int32) (A : ab) (L : List Int32) : List Int32 := itr (gAr am A) A.a 0 L
def shT (nm am : Nat → List Int32) (A : ab) : List Int32 := shA am A (shP nm A (shN nm A))
/-- what is shown of a state -/
def shO (nm am : Nat → List Int32) : Option ab → List Int32
  | none => [110, 111, 116, 104, 105, 110, 103]
  | some A => if (shT nm am A).length = 0 then [97, 108, 108] else shT nm am A
theorem xW_all : xW 0 = [110, 111, 116, 104, 105, 110, 103] ∧ xW 1 = [97, 108, 108] ∧ xW 2 = [32, 45, 32] ∧ xW 3 = [32, 43, 32] ∧ xW 4 = [32, 60, 61, 32] ∧ xW 5 = [91, 93] ∧ xW 6 = [44, 32] ∧ xW 7 = [32, 105, 110, 32] ∧ xW 8 = [46, 46] := by decide +kernel
theorem xW_ref : xW 26 = [44, 32] ∧ xW 27 = [32, 43, 32] ∧ xW 28 = [32, 45, 32] ∧ xW 29 = [32, 60, 61, 32] ∧ xW 30 = [110, 111, 116, 104, 105, 110, 103] ∧ xW 31 = [32, 105, 110, 32] ∧ xW 32 = [46, 46] ∧ xW 33 = [91, 93, 32, 105, 110, 32] ∧ xW 34 = [97, 108, 108] := by decide +kernel
theorem xB_255 : ∀ j, j < 35 → ∀ i, i < xL j → xB j i &&& 255 = xB j i := by decide +kernel
section LEs
variable {nm am : Nat → List Int32} {A : ab} {Bt : Nat → Int32}
theorem xT_len {j : Nat} : ∀ f i, (xT j f i).length = f := by
  intro f
  induction f with
  | zero => exact fun _ => rfl
  | succ f ih => exact fun i => by show (xT j f (i + 1)).length + 1 = f + 1; rw [ih]
theorem nmB_len : ∀ w p, (nmB Bt w p).length = w := by
  intro w
  induction w with
  | zero => exact fun _ => rfl
  | succ f ih => exact fun i => by show (nmB Bt f (i + 1)).length + 1 = f + 1; rw [ih]
theorem dgs_len : ∀ f s u, u < 10 ^ f → (dgs (f + 1) s u).length ≤ f := by
  intro f
  induction f with
  | zero =>
    intro s u hu
    have e : u = 0 := by omega
    have : dgs 1 s u = [] := by show (if u = 0 then _ else _) = _; rw [if_pos e]
    rw [this]
    exact Nat.le_refl _
  | succ f ih =>
    intro s u hu
    by_cases c : u = 0
    · have : dgs (f + 1 + 1) s u = [] := by show (if u = 0 then _ else _) = _; rw [if_pos c]
      rw [this]
      exact Nat.zero_le _
    · have e : dgs (f + 1 + 1) s u = Int32.ofNat (48 + s / u % 10) :: dgs (f + 1) s (u / 10) := by show (if u = 0 then _ else _) = _; rw [if_neg c]
      rw [e]
      have := ih s (u / 10) (by rw [Nat.pow_succ] at hu; omega)
      show (dgs (f + 1) s (u / 10)).length + 1 ≤ f + 1
      omega
theorem uni_lt : ∀ f s u b, 0 < u → u < b → s < u * 10 ^ f → (f = 0 → False) → u * 10 ^ (f - 1) < b → uni f s u < b := by
  intro f
  induction f with
  | zero => exact fun _ _ _ _ _ _ z => absurd rfl z
  | succ f ih =>
    intro s u b h0 h1 h2 _ h4
    show (if 10 ≤ s / u then uni f s (10 * u) else u) < b
    by_cases c : 10 ≤ s / u
    · rw [if_pos c]
      have hs : 10 * u ≤ s := by
        have := Nat.mul_le_of_le_div u 10 s c
        omega
      cases f with
      | zero =>
        rw [Nat.pow_one] at h2
        omega
      | succ f =>
        have e4 : u * 10 ^ (f + 1) < b := h4
        refine ih s (10 * u) b (by omega) ?_ ?_ (by omega) ?_
        · have : 1 ≤ 10 ^ f := Nat.one_le_pow f 10 (by decide)
          have := Nat.mul_le_mul_left (10 * u) this
          rw [Nat.pow_succ] at e4
          have e5 : u * (10 ^ f * 10) = 10 * u * 10 ^ f := by rw [Nat.mul_comm (10 ^ f) 10, ← Nat.mul_assoc, Nat.mul_comm u 10]
          omega
        · have e5 : u * 10 ^ (f + 1 + 1) = 10 * u * 10 ^ (f + 1) := by rw [Nat.pow_succ, Nat.mul_comm (10 ^ (f + 1)) 10, ← Nat.mul_assoc, Nat.mul_comm u 10]
          omega
        · show 10 * u * 10 ^ (f + 1 - 1) < b
          have e5 : u * 10 ^ (f + 1) = 10 * u * 10 ^ f := by rw [Nat.pow_succ, Nat.mul_comm (10 ^ f) 10, ← Nat.mul_assoc, Nat.mul_comm u 10]
          rw [Nat.add_sub_cancel]
          omega
    · rw [if_neg c]
      exact h1
theorem uni_10 {s : Nat} (hs : s ≤ 4294967296) : uni 10 s 1 < 10 ^ 10 := uni_lt 10 s 1 (10 ^ 10) (by decide) (by decide) (by omega) (by decide) (by decide)
theorem nbT_len {v : Int} (h1 : -4294967296 ≤ v) (h2 : v ≤ 4294967296) : (nbT v).length ≤ 11 := by
  unfold nbT
  have t : (dgs 11 v.natAbs (uni 10 v.natAbs 1)).length ≤ 10 := dgs_len 10 v.natAbs (uni 10 v.natAbs 1) (uni_10 (by omega))
  rw [List.length_append]
  split
  · show 1 + _ ≤ 11
    omega
  · show 0 + _ ≤ 11
    omega
theorem wCm_len (L : List Int32) : L.length ≤ (wCm L).length ∧ (wCm L).length ≤ L.length + 2 := by
  unfold wCm
  split
  · omega
  · rw [List.length_append]
    show L.length ≤ L.length + 2 ∧ L.length + 2 ≤ L.length + 2
    omega
theorem gNm_len {lo hi : Nat → Int} {x : Nat} {L : List Int32} (n30 : (nm x).length ≤ 30) (l1 : -4294967296 ≤ lo x ∧ lo x ≤ 4294967296) (l2 : -4294967296 ≤ hi x ∧ hi x ≤ 4294967296) : L.length + 1 ≤ (gNm nm lo hi x L).length ∧ (gNm nm lo hi x L).length ≤ L.length + 60 := by
  have a1 := nbT_len l1.1 l1.2
  have a2 := nbT_len l2.1 l2.2
  have a3 := wCm_len L
  unfold gNm
  simp only [List.length_append, List.length_cons, List.length_nil]
  omega
theorem gPr_len {i j : Nat} {L : List Int32} (n30 : ∀ x, (nm x).length ≤ 30) (l1 : -4294967296 ≤ a_gr A i j ∧ a_gr A i j ≤ 4294967296) : L.length ≤ (gPr nm A i j L).length ∧ (gPr nm A i j L).length ≤ L.length + 81 := by
  have a1 := nbT_len l1.1 l1.2
  have a3 := wCm_len L
  have b1 := n30 (i / 2)
  have b2 := n30 (j / 2)
  unfold gPr
  split
  · have c1 : (if i % 2 = 1 then [(45 : Int32)] else []).length ≤ 1 := by split <;> decide
    have c2 : (if j % 2 = 1 then [(32 : Int32), 45, 32] else [32, 43, 32]).length = 3 := by split <;> rfl
    simp only [List.length_append, List.length_cons, List.length_nil, c2]
    omega
  · omega
theorem gAr_len {x : Nat} {L : List Int32} (n30 : (am x).length ≤ 30) (l1 : -4294967296 ≤ A.lo x ∧ A.lo x ≤ 4294967296) (l2 : -4294967296 ≤ A.hi x ∧ A.hi x ≤ 4294967296) : L.length + 1 ≤ (gAr am A x L).length ∧ (gAr am A x L).length ≤ L.length + 62 := by
  have a1 := nbT_len l1.1 l1.2
  have a2 := nbT_len l2.1 l2.2
  have a3 := wCm_len L
  unfold gAr
  simp only [List.length_append, List.length_cons, List.length_nil]
  omega
theorem itr_len {g : Nat → List Int32 → List Int32} {c N : Nat} (w : ∀ x L, x < N → L.length ≤ (g x L).length ∧ (g x L).length ≤ L.length + c) : ∀ k x L, x + k ≤ N → L.length ≤ (itr g k x L).length ∧ (itr g k x L).length ≤ L.length + c * k := by
  intro k
  induction k with
  | zero => exact fun x L _ => ⟨Nat.le_refl _, Nat.le_refl _⟩
  | succ k ih =>
    intro x L hx
    obtain ⟨a1, a2⟩ := w x L (by omega)
    obtain ⟨b1, b2⟩ := ih (x + 1) (g x L) (by omega)
    show L.length ≤ (itr g k (x + 1) (g x L)).length ∧ (itr g k (x + 1) (g x L)).length ≤ L.length + c * (k + 1)
    rw [Nat.mul_succ]
    omega
end LEs
/-! longs that are numbers of a size -/
section LNs
variable {w x : Int64} {s u : Nat}
theorem ld_n (e : w.toInt = s) (e' : x.toInt = u) (hs : s < 1000000000000) : (w / x).toInt = ((s / u : Nat) : Int) := by
  have := Nat.div_le_self s u
  rw [Int64.toInt_div, e, e', ← Int.ofNat_tdiv]
  generalize s / u = q at this ⊢
  rw [Int.bmod_eq_of_le (by omega) (by omega)]
theorem lm_n (e' : x.toInt = u) (hs : u < 1000000000000) : (10 * x).toInt = ((10 * u : Nat) : Int) ∧ (x * 10).toInt = ((10 * u : Nat) : Int) := by
  constructor
  · rw [Int64.toInt_mul, e', show (10 : Int64).toInt = 10 from rfl, Int.bmod_eq_of_le (by omega) (by omega)]
    omega
  · rw [Int64.toInt_mul, e', show (10 : Int64).toInt = 10 from rfl, Int.bmod_eq_of_le (by omega) (by omega)]
    omega
theorem lr_n (e : w.toInt = s) (hs : s < 1000000000000) : (w - w / 10 * 10).toInt = ((s % 10 : Nat) : Int) := by
  have e1 := ld_n (x := 10) (u := 10) e rfl hs
  have e2 := (lm_n (x := w / 10) (u := s / 10) e1 (by omega)).2
  rw [Int64.toInt_sub, e2, e, Int.bmod_eq_of_le (by omega) (by omega)]
  omega
/-- the digit -/
theorem dg_n (e : w.toInt = s) (e' : x.toInt = u) (hs : s < 1000000000000) : (48 + (w / x - w / x / 10 * 10)).toInt32 = Int32.ofNat (48 + s / u % 10) := by
  have := Nat.div_le_self s u
  have e1 := ld_n e e' hs
  have e2 := lr_n e1 (by omega)
  apply Int32.toInt_inj.mp
  rw [Int64.toInt_toInt32, nn_int (by omega), Int64.toInt_add, e2, show (48 : Int64).toInt = 48 from rfl, Int.bmod_eq_of_le (m := 2 ^ 64) (by omega) (by omega), Int.bmod_eq_of_le (by omega) (by omega)]
  omega
theorem dg_255 {k : Nat} (hk : k < 10) : Int32.ofNat (48 + k) &&& 255 = Int32.ofNat (48 + k) := by
  have : k = 0 ∨ k = 1 ∨ k = 2 ∨ k = 3 ∨ k = 4 ∨ k = 5 ∨ k = 6 ∨ k = 7 ∨ k = 8 ∨ k = 9 := by omega
  rcases this with e | e | e | e | e | e | e | e | e | e <;> (subst e; decide)
end LNs
