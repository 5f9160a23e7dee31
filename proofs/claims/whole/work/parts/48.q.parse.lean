set_option maxRecDepth 100000
/-! THE REFERENCE'S PARSER: what it changes, as a state of its own -/
abbrev pst : Type := Nat × Bool × Int32 × Nat × (Nat → Int32) × (Nat → Int32) × (Nat → Int32) × (Nat → Int32) × (Nat → Int32) × (Nat → Int32)
def pst.at (s : pst) : Nat := s.1
def pst.bd (s : pst) : Bool := s.2.1
def pst.fl (s : pst) : Int32 := s.2.2.1
def pst.dr (s : pst) : Nat := s.2.2.2.1
def pst.K (s : pst) : Nat → Int32 := s.2.2.2.2.1
def pst.P (s : pst) : Nat → Int32 := s.2.2.2.2.2.1
def pst.V (s : pst) : Nat → Int32 := s.2.2.2.2.2.2.1
def pst.F (s : pst) : Nat → Int32 := s.2.2.2.2.2.2.2.1
def pst.L (s : pst) : Nat → Int32 := s.2.2.2.2.2.2.2.2.1
def pst.N (s : pst) : Nat → Int32 := s.2.2.2.2.2.2.2.2.2
def ups (f : Nat → Int32) (k : Nat) (v : Int32) : Nat → Int32 := fun j => if j = k then v else f j
def pst.uA (s : pst) (v : Nat) : pst := (v, s.bd, s.fl, s.dr, s.K, s.P, s.V, s.F, s.L, s.N)
def pst.uB (s : pst) : pst := (s.at, true, s.fl, s.dr, s.K, s.P, s.V, s.F, s.L, s.N)
def pst.uf (s : pst) (v : Int32) : pst := (s.at, s.bd, v, s.dr, s.K, s.P, s.V, s.F, s.L, s.N)
def pst.ud (s : pst) (v : Nat) : pst := (s.at, s.bd, s.fl, v, s.K, s.P, s.V, s.F, s.L, s.N)
def pst.uK (s : pst) (k : Nat) (v : Int32) : pst := (s.at, s.bd, s.fl, s.dr, ups s.K k v, s.P, s.V, s.F, s.L, s.N)
def pst.uP (s : pst) (k : Nat) (v : Int32) : pst := (s.at, s.bd, s.fl, s.dr, s.K, ups s.P k v, s.V, s.F, s.L, s.N)
def pst.uV (s : pst) (k : Nat) (v : Int32) : pst := (s.at, s.bd, s.fl, s.dr, s.K, s.P, ups s.V k v, s.F, s.L, s.N)
def pst.uF (s : pst) (k : Nat) (v : Int32) : pst := (s.at, s.bd, s.fl, s.dr, s.K, s.P, s.V, ups s.F k v, s.L, s.N)
def pst.uL (s : pst) (k : Nat) (v : Int32) : pst := (s.at, s.bd, s.fl, s.dr, s.K, s.P, s.V, s.F, ups s.L k v, s.N)
def pst.uN (s : pst) (k : Nat) (v : Int32) : pst := (s.at, s.bd, s.fl, s.dr, s.K, s.P, s.V, s.F, s.L, ups s.N k v)
/-- a new draft -/
def pst.dft (s : pst) (k p v : Int32) : pst := (s.at, s.bd, s.fl, s.dr + 1, ups s.K s.dr k, ups s.P s.dr p, ups s.V s.dr v, ups s.F s.dr (-1), ups s.L s.dr (-1), ups s.N s.dr (-1))
/-- a draft joined to another one -/
def pst.jn (s : pst) (o p : Nat) : pst := if s.F o = -1 then (s.at, s.bd, s.fl, s.dr, s.K, s.P, s.V, ups s.F o (Int32.ofNat p), ups s.L o (Int32.ofNat p), s.N) else (s.at, s.bd, s.fl, s.dr, s.K, s.P, s.V, s.F, ups s.L o (Int32.ofNat p), ups s.N (s.L o).toNatClampNeg (Int32.ofNat p))
def pH (h : mh_H) (s : pst) : mh_H := (mh_k h, mh_l h, (fun b k => if b = 81 ∧ k = 8 then Int32.ofNat s.at else if b = 81 ∧ k = 9 then kb s.bd else if b = 81 ∧ k = 10 then s.fl else if b = 81 ∧ k = 17 then Int32.ofNat s.dr else if b = 86 then s.K k else if b = 87 then s.P k else if b = 88 then s.V k else if b = 89 then s.F k else if b = 90 then s.L k else if b = 91 then s.N k else mh_i h b k), mh_j h, mh_r h, mh_n h, mh_s h)
section PHs
variable {h : mh_H} {s : pst} {k v : Nat} {x : Int32}
theorem pH_k : mh_k (pH h s) = mh_k h := nrfl rfl
theorem pH_l : mh_l (pH h s) = mh_l h := nrfl rfl
theorem pH_r : mh_r (pH h s) = mh_r h := nrfl rfl
theorem pH_n : mh_n (pH h s) = mh_n h := nrfl rfl
theorem pH_g {o c : Nat} : mg (pH h s) o c = mg h o c := nrfl rfl
theorem pH_8 : mh_i (pH h s) 81 8 = Int32.ofNat s.at := nrfl rfl
theorem pH_9 : mh_i (pH h s) 81 9 = kb s.bd := nrfl rfl
theorem pH_10 : mh_i (pH h s) 81 10 = s.fl := nrfl rfl
theorem pH_17 : mh_i (pH h s) 81 17 = Int32.ofNat s.dr := nrfl rfl
theorem pH_82 : mh_i (pH h s) 82 k = mh_i h 82 k := nrfl rfl
theorem pH_83 : mh_i (pH h s) 83 k = mh_i h 83 k := nrfl rfl
theorem pH_84 : mh_i (pH h s) 84 k = mh_i h 84 k := nrfl rfl
theorem pH_85 : mh_i (pH h s) 85 k = mh_i h 85 k := nrfl rfl
theorem pH_86 : mh_i (pH h s) 86 k = s.K k := nrfl rfl
theorem pH_87 : mh_i (pH h s) 87 k = s.P k := nrfl rfl
theorem pH_88 : mh_i (pH h s) 88 k = s.V k := nrfl rfl
theorem pH_89 : mh_i (pH h s) 89 k = s.F k := nrfl rfl
theorem pH_90 : mh_i (pH h s) 90 k = s.L k := nrfl rfl
theorem pH_91 : mh_i (pH h s) 91 k = s.N k := nrfl rfl
theorem mh_xi {h h' : mh_H} (a1 : mh_k h = mh_k h') (a2 : mh_l h = mh_l h') (a3 : ∀ b k, mh_i h b k = mh_i h' b k) (a4 : mh_j h = mh_j h') (a5 : mh_r h = mh_r h') (a6 : mh_n h = mh_n h') (a7 : mh_s h = mh_s h') : h = h' :=
  Prod.ext a1 (Prod.ext a2 (Prod.ext (funext fun b => funext fun k => a3 b k) (Prod.ext a4 (Prod.ext a5 (Prod.ext a6 a7)))))
theorem pH_i {b : Nat} : mh_i (pH h s) b k = if b = 81 ∧ k = 8 then Int32.ofNat s.at else if b = 81 ∧ k = 9 then kb s.bd else if b = 81 ∧ k = 10 then s.fl else if b = 81 ∧ k = 17 then Int32.ofNat s.dr else if b = 86 then s.K k else if b = 87 then s.P k else if b = 88 then s.V k else if b = 89 then s.F k else if b = 90 then s.L k else if b = 91 then s.N k else mh_i h b k := nrfl rfl
theorem pH_s8 : mh_si (pH h s) 81 8 (Int32.ofNat v) = pH h (s.uA v) := mh_xi rfl rfl (fun b j => by
  rw [hi_si, pH_i, pH_i]
  by_cases c : b = 81 ∧ j = 8
  · rw [if_pos c, if_pos c]; rfl
  · rw [if_neg c, if_neg c, if_neg c]; rfl) rfl rfl rfl rfl
theorem pH_s9 : mh_si (pH h s) 81 9 1 = pH h s.uB := mh_xi rfl rfl (fun b j => by
  rw [hi_si, pH_i, pH_i]
  by_cases c : b = 81 ∧ j = 9
  · rw [if_pos c, if_neg (by omega), if_pos c]; rfl
  · rw [if_neg c, if_neg c, if_neg c]; rfl) rfl rfl rfl rfl
theorem pH_s10 : mh_si (pH h s) 81 10 x = pH h (s.uf x) := mh_xi rfl rfl (fun b j => by
  rw [hi_si, pH_i, pH_i]
  by_cases c : b = 81 ∧ j = 10
  · rw [if_pos c, if_neg (by omega), if_neg (by omega), if_pos c]; rfl
  · rw [if_neg c, if_neg c, if_neg c]; rfl) rfl rfl rfl rfl
theorem pH_s17 : mh_si (pH h s) 81 17 (Int32.ofNat v) = pH h (s.ud v) := mh_xi rfl rfl (fun b j => by
  rw [hi_si, pH_i, pH_i]
  by_cases c : b = 81 ∧ j = 17
  · rw [if_pos c, if_neg (by omega), if_neg (by omega), if_neg (by omega), if_pos c]; rfl
  · rw [if_neg c, if_neg c, if_neg c]; rfl) rfl rfl rfl rfl
theorem pH_s86 : mh_si (pH h s) 86 k x = pH h (s.uK k x) := mh_xi rfl rfl (fun b j => by
  rw [hi_si, pH_i, pH_i]
  by_cases c : b = 86
  · subst c
    by_cases c2 : j = k
    · rw [if_pos ⟨rfl, c2⟩]; exact (if_pos c2).symm
    · rw [if_neg (fun z => c2 z.2)]; exact (if_neg c2).symm
  · rw [if_neg (fun z => c z.1)]
    by_cases c1 : b = 81
    · subst c1; rfl
    · simp only [c1, c, false_and, if_false]; rfl) rfl rfl rfl rfl
theorem pH_s87 : mh_si (pH h s) 87 k x = pH h (s.uP k x) := mh_xi rfl rfl (fun b j => by
  rw [hi_si, pH_i, pH_i]
  by_cases c : b = 87
  · subst c
    by_cases c2 : j = k
    · rw [if_pos ⟨rfl, c2⟩]; exact (if_pos c2).symm
    · rw [if_neg (fun z => c2 z.2)]; exact (if_neg c2).symm
  · rw [if_neg (fun z => c z.1)]
    by_cases c1 : b = 81
    · subst c1; rfl
    · simp only [c1, c, false_and, if_false]; rfl) rfl rfl rfl rfl
theorem pH_s88 : mh_si (pH h s) 88 k x = pH h (s.uV k x) := mh_xi rfl rfl (fun b j => by
  rw [hi_si, pH_i, pH_i]
  by_cases c : b = 88
  · subst c
    by_cases c2 : j = k
    · rw [if_pos ⟨rfl, c2⟩]; exact (if_pos c2).symm
    · rw [if_neg (fun z => c2 z.2)]; exact (if_neg c2).symm
  · rw [if_neg (fun z => c z.1)]
    by_cases c1 : b = 81
    · subst c1; rfl
    · simp only [c1, c, false_and, if_false]; rfl) rfl rfl rfl rfl
theorem pH_s89 : mh_si (pH h s) 89 k x = pH h (s.uF k x) := mh_xi rfl rfl (fun b j => by
  rw [hi_si, pH_i, pH_i]
  by_cases c : b = 89
  · subst c
    by_cases c2 : j = k
    · rw [if_pos ⟨rfl, c2⟩]; exact (if_pos c2).symm
    · rw [if_neg (fun z => c2 z.2)]; exact (if_neg c2).symm
  · rw [if_neg (fun z => c z.1)]
    by_cases c1 : b = 81
    · subst c1; rfl
    · simp only [c1, c, false_and, if_false]; rfl) rfl rfl rfl rfl
theorem pH_s90 : mh_si (pH h s) 90 k x = pH h (s.uL k x) := mh_xi rfl rfl (fun b j => by
  rw [hi_si, pH_i, pH_i]
  by_cases c : b = 90
  · subst c
    by_cases c2 : j = k
    · rw [if_pos ⟨rfl, c2⟩]; exact (if_pos c2).symm
    · rw [if_neg (fun z => c2 z.2)]; exact (if_neg c2).symm
  · rw [if_neg (fun z => c z.1)]
    by_cases c1 : b = 81
    · subst c1; rfl
    · simp only [c1, c, false_and, if_false]; rfl) rfl rfl rfl rfl
theorem pH_s91 : mh_si (pH h s) 91 k x = pH h (s.uN k x) := mh_xi rfl rfl (fun b j => by
  rw [hi_si, pH_i, pH_i]
  by_cases c : b = 91
  · subst c
    by_cases c2 : j = k
    · rw [if_pos ⟨rfl, c2⟩]; exact (if_pos c2).symm
    · rw [if_neg (fun z => c2 z.2)]; exact (if_neg c2).symm
  · rw [if_neg (fun z => c z.1)]
    by_cases c1 : b = 81
    · subst c1; rfl
    · simp only [c1, c, false_and, if_false]; rfl) rfl rfl rfl rfl
end PHs
def kvs : List Int32 := [0, 1, 2, 3, 4, 5, 6, 7, 8, 9, 10, 11, 40, 41, 123, 125, 91, 93, 44, 59, 61, 43, 45, 42, 47, 37, 60, 62, 33, 128, 129, 130, 131, 132, 133]
theorem kv_all : ∀ k, k ∈ kvs → ∀ c, c ∈ kvs → (rkd k = rkd c ↔ k = c) := by decide +kernel
theorem rk_e {k c y : Int32} (hk : k ∈ kvs) (hc : c ∈ kvs) (e : rkd c = y) : (rkd k = y) = (k = c) := by rw [← e]; exact propext (kv_all k hk c hc)
