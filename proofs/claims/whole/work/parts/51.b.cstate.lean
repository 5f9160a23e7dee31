set_option maxRecDepth 100000
/-! THE CLASS'S PARSER: what it changes, as a state of its own: counters (waiting 0, next 1, depth 2, opened 3, codes 4, parts 5, sums 6, conds 7, statements 8, functions 9, names 10, blocks 11, numbers 12, arrays 13), and ints by their cell (behind the base B) and place -/
abbrev cps : Type := (Nat → Nat) × (Nat → Nat → Int32)
def u1 (s : cps) (c v : Nat) : cps := (fun x => if x = c then v else s.1 x, s.2)
def u2 (s : cps) (o k : Nat) (v : Int32) : cps := (s.1, fun x y => if x = o ∧ y = k then v else s.2 x y)
def ct (o k : Nat) : Nat := if o = 16 then (if k = 4 then 0 else if k = 5 then 1 else if k = 6 then 2 else if k = 10 then 3 else 99) else if o = 5 then (if k = 1 then 4 else if k = 5 then 5 else if k = 8 then 6 else if k = 11 then 7 else if k = 13 then 8 else if k = 15 then 9 else 99) else if o = 18 then (if k = 4 then 10 else if k = 6 then 11 else if k = 7 then 12 else if k = 8 then 13 else 99) else 99
def cI (s : cps) (o k : Nat) : Int32 := if ct o k = 99 then s.2 o k else Int32.ofNat (s.1 (ct o k))
def cH (h : mh_H) (B : Nat) (s : cps) : mh_H := (fun b => if B + 24 ≤ b ∧ b < B + (24 + s.1 8) then 9 else mh_k h b, fun b => if B + 24 ≤ b ∧ b < B + (24 + s.1 8) then 17 else mh_l h b, fun b k => if b < B + 5 then mh_i h b k else cI s (b - B) k, fun b k => if B + 24 ≤ b ∧ b < B + (24 + s.1 8) then 0 else mh_j h b k, fun b k => if B + 24 ≤ b ∧ b < B + (24 + s.1 8) then none else if b = B + 14 ∧ k < s.1 8 then some (B + (24 + k)) else if b = B + 16 ∧ k = 8 ∧ 0 < s.1 8 then some (B + (23 + s.1 8)) else mh_r h b k, B + (24 + s.1 8), mh_s h + 17 * s.1 8)
def gL (n : Nat) : Nat := 12 * (min n 60 + 3)
def cpK (n : Nat) : List (Nat × Nat × Nat) := [(0, 10, 5), (1, 102, n), (2, 100, n + 1), (3, 100, n + 1), (4, 100, n + 1), (5, 7, 16), (6, 100, 3 * n + 3), (7, 100, n + 1), (8, 100, n + 1), (9, 100, n + 1), (10, 100, n + 2), (11, 100, n + 2), (12, 100, n + 1), (13, 100, n + 1), (14, 105, n / 3 + 2), (15, 100, 6 * (n / 9 + 2)), (16, 3, 14), (17, 100, 62), (18, 6, 9), (19, 100, 62), (20, 100, n / 2 + 1), (21, 100, n / 2 + 1), (22, 100, n / 2 + 1), (23, 100, gL n)]
def cpR : List (Nat × Nat × Nat) := [(0, 0, 1), (0, 1, 2), (0, 2, 3), (0, 3, 4), (5, 0, 6), (5, 2, 7), (5, 3, 8), (5, 4, 9), (5, 6, 10), (5, 7, 11), (5, 9, 12), (5, 10, 13), (5, 12, 14), (5, 14, 15), (16, 0, 0), (16, 1, 5), (16, 2, 18), (16, 3, 23), (16, 9, 17), (18, 0, 0), (18, 1, 20), (18, 2, 21), (18, 3, 22), (18, 5, 19)]
/-- what the constructors of Tokens, Source, Parser and Scope leave -/
def CPB (h : mh_H) (B n : Nat) : Prop := (mh_n h = B + 24) ∧ (n ≤ 16400) ∧ (∀ t, t ∈ cpK n → mh_k h (B + t.1) = t.2.1 ∧ mh_l h (B + t.1) = t.2.2) ∧ (∀ t, t ∈ cpR → mh_r h (B + t.1) t.2.1 = some (B + t.2.2))
theorem CPB.of {h : mh_H} {B n : Nat} (q : (mh_n h = B + 24) ∧ (n ≤ 16400) ∧ (∀ t, t ∈ cpK n → mh_k h (B + t.1) = t.2.1 ∧ mh_l h (B + t.1) = t.2.2) ∧ (∀ t, t ∈ cpR → mh_r h (B + t.1) t.2.1 = some (B + t.2.2))) : CPB h B n := q
theorem CPB.N {h : mh_H} {B n : Nat} (q : CPB h B n) : mh_n h = B + 24 := q.1
theorem CPB.n {h : mh_H} {B n : Nat} (q : CPB h B n) : n ≤ 16400 := q.2.1
theorem CPB.k {h : mh_H} {B n : Nat} (q : CPB h B n) : ∀ t, t ∈ cpK n → mh_k h (B + t.1) = t.2.1 ∧ mh_l h (B + t.1) = t.2.2 := q.2.2.1
theorem CPB.r {h : mh_H} {B n : Nat} (q : CPB h B n) : ∀ t, t ∈ cpR → mh_r h (B + t.1) t.2.1 = some (B + t.2.2) := q.2.2.2
section CHs
variable {h : mh_H} {B n : Nat} {s s' : cps} {o k c v x y : Nat} {w : Int32}
theorem u1_1 : (u1 s c v).1 x = if x = c then v else s.1 x := nrfl rfl
theorem u1_2 : (u1 s c v).2 = s.2 := nrfl rfl
theorem u2_1 : (u2 s o k w).1 = s.1 := nrfl rfl
theorem u2_2 : (u2 s o k w).2 x y = if x = o ∧ y = k then w else s.2 x y := nrfl rfl
theorem ct_i (e : ct x y = c) : (c = 0 → x = 16 ∧ y = 4) ∧ (c = 1 → x = 16 ∧ y = 5) ∧ (c = 2 → x = 16 ∧ y = 6) ∧ (c = 3 → x = 16 ∧ y = 10) ∧ (c = 4 → x = 5 ∧ y = 1) ∧ (c = 5 → x = 5 ∧ y = 5) ∧ (c = 6 → x = 5 ∧ y = 8) ∧ (c = 7 → x = 5 ∧ y = 11) ∧ (c = 8 → x = 5 ∧ y = 13) ∧ (c = 9 → x = 5 ∧ y = 15) ∧ (c = 10 → x = 18 ∧ y = 4) ∧ (c = 11 → x = 18 ∧ y = 6) ∧ (c = 12 → x = 18 ∧ y = 7) ∧ (c = 13 → x = 18 ∧ y = 8) := by
  unfold ct at e
  by_cases a : x = 16
  · rw [if_pos a] at e
    by_cases b1 : y = 4
    · rw [if_pos b1] at e; omega
    rw [if_neg b1] at e
    by_cases b2 : y = 5
    · rw [if_pos b2] at e; omega
    rw [if_neg b2] at e
    by_cases b3 : y = 6
    · rw [if_pos b3] at e; omega
    rw [if_neg b3] at e
    by_cases b4 : y = 10
    · rw [if_pos b4] at e; omega
    rw [if_neg b4] at e; omega
  rw [if_neg a] at e
  by_cases a2 : x = 5
  · rw [if_pos a2] at e
    by_cases b1 : y = 1
    · rw [if_pos b1] at e; omega
    rw [if_neg b1] at e
    by_cases b2 : y = 5
    · rw [if_pos b2] at e; omega
    rw [if_neg b2] at e
    by_cases b3 : y = 8
    · rw [if_pos b3] at e; omega
    rw [if_neg b3] at e
    by_cases b4 : y = 11
    · rw [if_pos b4] at e; omega
    rw [if_neg b4] at e
    by_cases b5 : y = 13
    · rw [if_pos b5] at e; omega
    rw [if_neg b5] at e
    by_cases b6 : y = 15
    · rw [if_pos b6] at e; omega
    rw [if_neg b6] at e; omega
  rw [if_neg a2] at e
  by_cases a3 : x = 18
  · rw [if_pos a3] at e
    by_cases b1 : y = 4
    · rw [if_pos b1] at e; omega
    rw [if_neg b1] at e
    by_cases b2 : y = 6
    · rw [if_pos b2] at e; omega
    rw [if_neg b2] at e
    by_cases b3 : y = 7
    · rw [if_pos b3] at e; omega
    rw [if_neg b3] at e
    by_cases b4 : y = 8
    · rw [if_pos b4] at e; omega
    rw [if_neg b4] at e; omega
  rw [if_neg a3] at e; omega
theorem ct_S (ho : 19 ≤ o) : ct o k = 99 := by
  unfold ct
  rw [if_neg (by omega), if_neg (by omega), if_neg (by omega)]
theorem cI_u1 (ho : ct o k = c) (hc : c ≠ 99) (hi : ∀ x y, ct x y = c → x = o ∧ y = k) : cI (u1 s c v) x y = if x = o ∧ y = k then Int32.ofNat v else cI s x y := by
  unfold cI
  rw [u1_1, u1_2]
  by_cases q : x = o ∧ y = k
  · obtain ⟨q1, q2⟩ := q
    subst q1; subst q2
    rw [if_pos (⟨rfl, rfl⟩ : _ ∧ _), if_neg (by rw [ho]; exact hc), if_pos ho]
  · rw [if_neg q]
    have n1 : ¬ ct x y = c := fun z => q (hi x y z)
    rw [if_neg n1]
theorem cI_u2 (ho : ct o k = 99) : cI (u2 s o k w) x y = if x = o ∧ y = k then w else cI s x y := by
  unfold cI
  rw [u2_1, u2_2]
  by_cases q : x = o ∧ y = k
  · rw [if_pos q, if_pos q, if_pos (by rw [q.1, q.2]; exact ho)]
  · rw [if_neg q, if_neg q]
theorem cH_i5 (ho : 5 ≤ o) : mh_i (cH h B s) (B + o) k = cI s o k := by
  show (if B + o < B + 5 then mh_i h (B + o) k else cI s (B + o - B) k) = _
  rw [if_neg (by omega), Nat.add_sub_cancel_left]
theorem cH_i4 {a : Nat} (ho : a < B + 5) : mh_i (cH h B s) a k = mh_i h a k := if_pos ho
theorem cH_k {a : Nat} (ho : a < B + 24) : mh_k (cH h B s) a = mh_k h a := if_neg (fun z => by omega)
theorem cH_l {a : Nat} (ho : a < B + 24) : mh_l (cH h B s) a = mh_l h a := if_neg (fun z => by omega)
theorem cH_n : mh_n (cH h B s) = B + (24 + s.1 8) := nrfl rfl
theorem cH_r {a : Nat} (h0 : a < B + 24) (h1 : a ≠ B + 14) (h2 : ¬ (a = B + 16 ∧ k = 8)) : mh_r (cH h B s) a k = mh_r h a k := by
  show (if B + 24 ≤ a ∧ a < B + (24 + s.1 8) then none else if a = B + 14 ∧ k < s.1 8 then some (B + (24 + k)) else if a = B + 16 ∧ k = 8 ∧ 0 < s.1 8 then some (B + (23 + s.1 8)) else mh_r h a k) = _
  rw [if_neg (by omega), if_neg (fun z => h1 z.1), if_neg (fun z => h2 ⟨z.1, z.2.1⟩)]
theorem cH_g (ho : o < 24) (q : mh_k h (B + o) = c) : mg (cH h B s) (B + o) c = True := eq_true ⟨by rw [cH_k (by omega)]; exact q, by rw [cH_n]; omega⟩
theorem cH_si (ho : 5 ≤ o) (h8 : s'.1 8 = s.1 8) (e : ∀ x y, cI s' x y = if x = o ∧ y = k then w else cI s x y) : mh_si (cH h B s) (B + o) k w = cH h B s' := by
  refine mh_xi ?_ ?_ (fun b j => ?_) ?_ ?_ ?_ ?_
  · funext b
    show (if B + 24 ≤ b ∧ b < B + (24 + s.1 8) then 9 else mh_k h b) = (if B + 24 ≤ b ∧ b < B + (24 + s'.1 8) then 9 else mh_k h b)
    rw [h8]
  · funext b
    show (if B + 24 ≤ b ∧ b < B + (24 + s.1 8) then 17 else mh_l h b) = (if B + 24 ≤ b ∧ b < B + (24 + s'.1 8) then 17 else mh_l h b)
    rw [h8]
  · rw [hi_si]
    show (if b = B + o ∧ j = k then w else if b < B + 5 then mh_i h b j else cI s (b - B) j) = if b < B + 5 then mh_i h b j else cI s' (b - B) j
    by_cases q : b < B + 5
    · rw [if_neg (fun z => by omega), if_pos q, if_pos q]
    · rw [if_neg q, if_neg q, e]
      by_cases q2 : b = B + o ∧ j = k
      · rw [if_pos q2, if_pos ⟨by omega, q2.2⟩]
      · rw [if_neg q2, if_neg (fun z => q2 ⟨by omega, z.2⟩)]
  · funext b j
    show (if B + 24 ≤ b ∧ b < B + (24 + s.1 8) then 0 else mh_j h b j) = (if B + 24 ≤ b ∧ b < B + (24 + s'.1 8) then 0 else mh_j h b j)
    rw [h8]
  · funext b j
    show (if B + 24 ≤ b ∧ b < B + (24 + s.1 8) then none else if b = B + 14 ∧ j < s.1 8 then some (B + (24 + j)) else if b = B + 16 ∧ j = 8 ∧ 0 < s.1 8 then some (B + (23 + s.1 8)) else mh_r h b j) = (if B + 24 ≤ b ∧ b < B + (24 + s'.1 8) then none else if b = B + 14 ∧ j < s'.1 8 then some (B + (24 + j)) else if b = B + 16 ∧ j = 8 ∧ 0 < s'.1 8 then some (B + (23 + s'.1 8)) else mh_r h b j)
    rw [h8]
  · show B + (24 + s.1 8) = B + (24 + s'.1 8)
    rw [h8]
  · show mh_s h + 17 * s.1 8 = mh_s h + 17 * s'.1 8
    rw [h8]
/-! ints -/
theorem ci_c0 : mh_i (cH h B s) (B + 16) 4 = Int32.ofNat (s.1 0) := (cH_i5 (by decide)).trans rfl
theorem cs_c0 : mh_si (cH h B s) (B + 16) 4 (Int32.ofNat v) = cH h B (u1 s 0 v) := cH_si (by decide) rfl (fun x y => cI_u1 rfl (by decide) (fun x y e => (ct_i e).1 rfl))
theorem ci_c1 : mh_i (cH h B s) (B + 16) 5 = Int32.ofNat (s.1 1) := (cH_i5 (by decide)).trans rfl
theorem cs_c1 : mh_si (cH h B s) (B + 16) 5 (Int32.ofNat v) = cH h B (u1 s 1 v) := cH_si (by decide) rfl (fun x y => cI_u1 rfl (by decide) (fun x y e => (ct_i e).2.1 rfl))
theorem ci_c2 : mh_i (cH h B s) (B + 16) 6 = Int32.ofNat (s.1 2) := (cH_i5 (by decide)).trans rfl
theorem cs_c2 : mh_si (cH h B s) (B + 16) 6 (Int32.ofNat v) = cH h B (u1 s 2 v) := cH_si (by decide) rfl (fun x y => cI_u1 rfl (by decide) (fun x y e => (ct_i e).2.2.1 rfl))
theorem ci_c3 : mh_i (cH h B s) (B + 16) 10 = Int32.ofNat (s.1 3) := (cH_i5 (by decide)).trans rfl
theorem cs_c3 : mh_si (cH h B s) (B + 16) 10 (Int32.ofNat v) = cH h B (u1 s 3 v) := cH_si (by decide) rfl (fun x y => cI_u1 rfl (by decide) (fun x y e => (ct_i e).2.2.2.1 rfl))
theorem ci_c4 : mh_i (cH h B s) (B + 5) 1 = Int32.ofNat (s.1 4) := (cH_i5 (by decide)).trans rfl
theorem cs_c4 : mh_si (cH h B s) (B + 5) 1 (Int32.ofNat v) = cH h B (u1 s 4 v) := cH_si (by decide) rfl (fun x y => cI_u1 rfl (by decide) (fun x y e => (ct_i e).2.2.2.2.1 rfl))
theorem ci_c5 : mh_i (cH h B s) (B + 5) 5 = Int32.ofNat (s.1 5) := (cH_i5 (by decide)).trans rfl
theorem cs_c5 : mh_si (cH h B s) (B + 5) 5 (Int32.ofNat v) = cH h B (u1 s 5 v) := cH_si (by decide) rfl (fun x y => cI_u1 rfl (by decide) (fun x y e => (ct_i e).2.2.2.2.2.1 rfl))
theorem ci_c6 : mh_i (cH h B s) (B + 5) 8 = Int32.ofNat (s.1 6) := (cH_i5 (by decide)).trans rfl
theorem cs_c6 : mh_si (cH h B s) (B + 5) 8 (Int32.ofNat v) = cH h B (u1 s 6 v) := cH_si (by decide) rfl (fun x y => cI_u1 rfl (by decide) (fun x y e => (ct_i e).2.2.2.2.2.2.1 rfl))
theorem ci_c7 : mh_i (cH h B s) (B + 5) 11 = Int32.ofNat (s.1 7) := (cH_i5 (by decide)).trans rfl
theorem cs_c7 : mh_si (cH h B s) (B + 5) 11 (Int32.ofNat v) = cH h B (u1 s 7 v) := cH_si (by decide) rfl (fun x y => cI_u1 rfl (by decide) (fun x y e => (ct_i e).2.2.2.2.2.2.2.1 rfl))
theorem ci_c8 : mh_i (cH h B s) (B + 5) 13 = Int32.ofNat (s.1 8) := (cH_i5 (by decide)).trans rfl
theorem ci_c9 : mh_i (cH h B s) (B + 5) 15 = Int32.ofNat (s.1 9) := (cH_i5 (by decide)).trans rfl
theorem cs_c9 : mh_si (cH h B s) (B + 5) 15 (Int32.ofNat v) = cH h B (u1 s 9 v) := cH_si (by decide) rfl (fun x y => cI_u1 rfl (by decide) (fun x y e => (ct_i e).2.2.2.2.2.2.2.2.2.1 rfl))
theorem ci_c10 : mh_i (cH h B s) (B + 18) 4 = Int32.ofNat (s.1 10) := (cH_i5 (by decide)).trans rfl
theorem cs_c10 : mh_si (cH h B s) (B + 18) 4 (Int32.ofNat v) = cH h B (u1 s 10 v) := cH_si (by decide) rfl (fun x y => cI_u1 rfl (by decide) (fun x y e => (ct_i e).2.2.2.2.2.2.2.2.2.2.1 rfl))
theorem ci_c11 : mh_i (cH h B s) (B + 18) 6 = Int32.ofNat (s.1 11) := (cH_i5 (by decide)).trans rfl
theorem cs_c11 : mh_si (cH h B s) (B + 18) 6 (Int32.ofNat v) = cH h B (u1 s 11 v) := cH_si (by decide) rfl (fun x y => cI_u1 rfl (by decide) (fun x y e => (ct_i e).2.2.2.2.2.2.2.2.2.2.2.1 rfl))
theorem ci_c12 : mh_i (cH h B s) (B + 18) 7 = Int32.ofNat (s.1 12) := (cH_i5 (by decide)).trans rfl
theorem cs_c12 : mh_si (cH h B s) (B + 18) 7 (Int32.ofNat v) = cH h B (u1 s 12 v) := cH_si (by decide) rfl (fun x y => cI_u1 rfl (by decide) (fun x y e => (ct_i e).2.2.2.2.2.2.2.2.2.2.2.2.1 rfl))
theorem ci_c13 : mh_i (cH h B s) (B + 18) 8 = Int32.ofNat (s.1 13) := (cH_i5 (by decide)).trans rfl
theorem cs_c13 : mh_si (cH h B s) (B + 18) 8 (Int32.ofNat v) = cH h B (u1 s 13 v) := cH_si (by decide) rfl (fun x y => cI_u1 rfl (by decide) (fun x y e => (ct_i e).2.2.2.2.2.2.2.2.2.2.2.2.2 rfl))
theorem ci_r6 : mh_i (cH h B s) (B + 6) k = s.2 6 k := (cH_i5 (by decide)).trans rfl
theorem cs_r6 : mh_si (cH h B s) (B + 6) k w = cH h B (u2 s 6 k w) := cH_si (by decide) rfl (fun x y => cI_u2 rfl)
theorem ci_r7 : mh_i (cH h B s) (B + 7) k = s.2 7 k := (cH_i5 (by decide)).trans rfl
theorem cs_r7 : mh_si (cH h B s) (B + 7) k w = cH h B (u2 s 7 k w) := cH_si (by decide) rfl (fun x y => cI_u2 rfl)
theorem ci_r8 : mh_i (cH h B s) (B + 8) k = s.2 8 k := (cH_i5 (by decide)).trans rfl
theorem cs_r8 : mh_si (cH h B s) (B + 8) k w = cH h B (u2 s 8 k w) := cH_si (by decide) rfl (fun x y => cI_u2 rfl)
theorem ci_r9 : mh_i (cH h B s) (B + 9) k = s.2 9 k := (cH_i5 (by decide)).trans rfl
theorem cs_r9 : mh_si (cH h B s) (B + 9) k w = cH h B (u2 s 9 k w) := cH_si (by decide) rfl (fun x y => cI_u2 rfl)
theorem ci_r10 : mh_i (cH h B s) (B + 10) k = s.2 10 k := (cH_i5 (by decide)).trans rfl
theorem cs_r10 : mh_si (cH h B s) (B + 10) k w = cH h B (u2 s 10 k w) := cH_si (by decide) rfl (fun x y => cI_u2 rfl)
theorem ci_r11 : mh_i (cH h B s) (B + 11) k = s.2 11 k := (cH_i5 (by decide)).trans rfl
theorem cs_r11 : mh_si (cH h B s) (B + 11) k w = cH h B (u2 s 11 k w) := cH_si (by decide) rfl (fun x y => cI_u2 rfl)
theorem ci_r12 : mh_i (cH h B s) (B + 12) k = s.2 12 k := (cH_i5 (by decide)).trans rfl
theorem cs_r12 : mh_si (cH h B s) (B + 12) k w = cH h B (u2 s 12 k w) := cH_si (by decide) rfl (fun x y => cI_u2 rfl)
theorem ci_r13 : mh_i (cH h B s) (B + 13) k = s.2 13 k := (cH_i5 (by decide)).trans rfl
theorem cs_r13 : mh_si (cH h B s) (B + 13) k w = cH h B (u2 s 13 k w) := cH_si (by decide) rfl (fun x y => cI_u2 rfl)
theorem ci_r15 : mh_i (cH h B s) (B + 15) k = s.2 15 k := (cH_i5 (by decide)).trans rfl
theorem cs_r15 : mh_si (cH h B s) (B + 15) k w = cH h B (u2 s 15 k w) := cH_si (by decide) rfl (fun x y => cI_u2 rfl)
theorem ci_r17 : mh_i (cH h B s) (B + 17) k = s.2 17 k := (cH_i5 (by decide)).trans rfl
theorem cs_r17 : mh_si (cH h B s) (B + 17) k w = cH h B (u2 s 17 k w) := cH_si (by decide) rfl (fun x y => cI_u2 rfl)
theorem ci_r19 : mh_i (cH h B s) (B + 19) k = s.2 19 k := (cH_i5 (by decide)).trans rfl
theorem cs_r19 : mh_si (cH h B s) (B + 19) k w = cH h B (u2 s 19 k w) := cH_si (by decide) rfl (fun x y => cI_u2 rfl)
theorem ci_r20 : mh_i (cH h B s) (B + 20) k = s.2 20 k := (cH_i5 (by decide)).trans rfl
theorem cs_r20 : mh_si (cH h B s) (B + 20) k w = cH h B (u2 s 20 k w) := cH_si (by decide) rfl (fun x y => cI_u2 rfl)
theorem ci_r21 : mh_i (cH h B s) (B + 21) k = s.2 21 k := (cH_i5 (by decide)).trans rfl
theorem cs_r21 : mh_si (cH h B s) (B + 21) k w = cH h B (u2 s 21 k w) := cH_si (by decide) rfl (fun x y => cI_u2 rfl)
theorem ci_r22 : mh_i (cH h B s) (B + 22) k = s.2 22 k := (cH_i5 (by decide)).trans rfl
theorem cs_r22 : mh_si (cH h B s) (B + 22) k w = cH h B (u2 s 22 k w) := cH_si (by decide) rfl (fun x y => cI_u2 rfl)
theorem ci_r23 : mh_i (cH h B s) (B + 23) k = s.2 23 k := (cH_i5 (by decide)).trans rfl
theorem cs_r23 : mh_si (cH h B s) (B + 23) k w = cH h B (u2 s 23 k w) := cH_si (by decide) rfl (fun x y => cI_u2 rfl)
theorem ci_p7 : mh_i (cH h B s) (B + 16) 7 = s.2 16 7 := (cH_i5 (by decide)).trans rfl
theorem cs_p7 : mh_si (cH h B s) (B + 16) 7 w = cH h B (u2 s 16 7 w) := cH_si (by decide) rfl (fun x y => cI_u2 rfl)
theorem ci_p11 : mh_i (cH h B s) (B + 16) 11 = s.2 16 11 := (cH_i5 (by decide)).trans rfl
theorem cs_p11 : mh_si (cH h B s) (B + 16) 11 w = cH h B (u2 s 16 11 w) := cH_si (by decide) rfl (fun x y => cI_u2 rfl)
theorem ci_p12 : mh_i (cH h B s) (B + 16) 12 = s.2 16 12 := (cH_i5 (by decide)).trans rfl
theorem cs_p12 : mh_si (cH h B s) (B + 16) 12 w = cH h B (u2 s 16 12 w) := cH_si (by decide) rfl (fun x y => cI_u2 rfl)
theorem ci_p13 : mh_i (cH h B s) (B + 16) 13 = s.2 16 13 := (cH_i5 (by decide)).trans rfl
theorem cs_p13 : mh_si (cH h B s) (B + 16) 13 w = cH h B (u2 s 16 13 w) := cH_si (by decide) rfl (fun x y => cI_u2 rfl)
theorem ci_S (ho : 24 ≤ o) : mh_i (cH h B s) (B + o) k = s.2 o k := (cH_i5 (by omega)).trans (if_pos (ct_S (by omega)))
theorem cs_S (ho : 24 ≤ o) : mh_si (cH h B s) (B + o) k w = cH h B (u2 s o k w) := cH_si (by omega) rfl (fun x y => cI_u2 (ct_S (by omega)))
theorem ci_t : mh_i (cH h B s) B k = mh_i h B k := cH_i4 (by omega)
theorem ci_t1 : mh_i (cH h B s) (B + 1) k = mh_i h (B + 1) k := cH_i4 (by omega)
theorem ci_t2 : mh_i (cH h B s) (B + 2) k = mh_i h (B + 2) k := cH_i4 (by omega)
theorem ci_t3 : mh_i (cH h B s) (B + 3) k = mh_i h (B + 3) k := cH_i4 (by omega)
theorem ci_t4 : mh_i (cH h B s) (B + 4) k = mh_i h (B + 4) k := cH_i4 (by omega)
/-! kinds, lengths, references -/
theorem cg_0 (b : CPB h B n) : mg (cH h B s) B 10 = True := cH_g (o := 0) (by decide) (b.k (0, 10, 5) (List.mem_of_getElem? (i := 0) rfl)).1
theorem cg_1 (b : CPB h B n) : mg (cH h B s) (B + 1) 102 = True := cH_g (o := 1) (by decide) (b.k (1, 102, n) (List.mem_of_getElem? (i := 1) rfl)).1
theorem cln_1 (b : CPB h B n) : mh_l (cH h B s) (B + 1) = n := (cH_l (a := B + 1) (by omega)).trans (b.k (1, 102, n) (List.mem_of_getElem? (i := 1) rfl)).2
theorem cg_2 (b : CPB h B n) : mg (cH h B s) (B + 2) 100 = True := cH_g (o := 2) (by decide) (b.k (2, 100, n + 1) (List.mem_of_getElem? (i := 2) rfl)).1
theorem cln_2 (b : CPB h B n) : mh_l (cH h B s) (B + 2) = n + 1 := (cH_l (a := B + 2) (by omega)).trans (b.k (2, 100, n + 1) (List.mem_of_getElem? (i := 2) rfl)).2
theorem cg_3 (b : CPB h B n) : mg (cH h B s) (B + 3) 100 = True := cH_g (o := 3) (by decide) (b.k (3, 100, n + 1) (List.mem_of_getElem? (i := 3) rfl)).1
theorem cln_3 (b : CPB h B n) : mh_l (cH h B s) (B + 3) = n + 1 := (cH_l (a := B + 3) (by omega)).trans (b.k (3, 100, n + 1) (List.mem_of_getElem? (i := 3) rfl)).2
theorem cg_4 (b : CPB h B n) : mg (cH h B s) (B + 4) 100 = True := cH_g (o := 4) (by decide) (b.k (4, 100, n + 1) (List.mem_of_getElem? (i := 4) rfl)).1
theorem cln_4 (b : CPB h B n) : mh_l (cH h B s) (B + 4) = n + 1 := (cH_l (a := B + 4) (by omega)).trans (b.k (4, 100, n + 1) (List.mem_of_getElem? (i := 4) rfl)).2
theorem cg_5 (b : CPB h B n) : mg (cH h B s) (B + 5) 7 = True := cH_g (o := 5) (by decide) (b.k (5, 7, 16) (List.mem_of_getElem? (i := 5) rfl)).1
theorem cg_6 (b : CPB h B n) : mg (cH h B s) (B + 6) 100 = True := cH_g (o := 6) (by decide) (b.k (6, 100, 3 * n + 3) (List.mem_of_getElem? (i := 6) rfl)).1
theorem cln_6 (b : CPB h B n) : mh_l (cH h B s) (B + 6) = 3 * n + 3 := (cH_l (a := B + 6) (by omega)).trans (b.k (6, 100, 3 * n + 3) (List.mem_of_getElem? (i := 6) rfl)).2
theorem cg_7 (b : CPB h B n) : mg (cH h B s) (B + 7) 100 = True := cH_g (o := 7) (by decide) (b.k (7, 100, n + 1) (List.mem_of_getElem? (i := 7) rfl)).1
theorem cln_7 (b : CPB h B n) : mh_l (cH h B s) (B + 7) = n + 1 := (cH_l (a := B + 7) (by omega)).trans (b.k (7, 100, n + 1) (List.mem_of_getElem? (i := 7) rfl)).2
theorem cg_8 (b : CPB h B n) : mg (cH h B s) (B + 8) 100 = True := cH_g (o := 8) (by decide) (b.k (8, 100, n + 1) (List.mem_of_getElem? (i := 8) rfl)).1
theorem cln_8 (b : CPB h B n) : mh_l (cH h B s) (B + 8) = n + 1 := (cH_l (a := B + 8) (by omega)).trans (b.k (8, 100, n + 1) (List.mem_of_getElem? (i := 8) rfl)).2
theorem cg_9 (b : CPB h B n) : mg (cH h B s) (B + 9) 100 = True := cH_g (o := 9) (by decide) (b.k (9, 100, n + 1) (List.mem_of_getElem? (i := 9) rfl)).1
theorem cln_9 (b : CPB h B n) : mh_l (cH h B s) (B + 9) = n + 1 := (cH_l (a := B + 9) (by omega)).trans (b.k (9, 100, n + 1) (List.mem_of_getElem? (i := 9) rfl)).2
theorem cg_10 (b : CPB h B n) : mg (cH h B s) (B + 10) 100 = True := cH_g (o := 10) (by decide) (b.k (10, 100, n + 2) (List.mem_of_getElem? (i := 10) rfl)).1
theorem cln_10 (b : CPB h B n) : mh_l (cH h B s) (B + 10) = n + 2 := (cH_l (a := B + 10) (by omega)).trans (b.k (10, 100, n + 2) (List.mem_of_getElem? (i := 10) rfl)).2
theorem cg_11 (b : CPB h B n) : mg (cH h B s) (B + 11) 100 = True := cH_g (o := 11) (by decide) (b.k (11, 100, n + 2) (List.mem_of_getElem? (i := 11) rfl)).1
theorem cln_11 (b : CPB h B n) : mh_l (cH h B s) (B + 11) = n + 2 := (cH_l (a := B + 11) (by omega)).trans (b.k (11, 100, n + 2) (List.mem_of_getElem? (i := 11) rfl)).2
theorem cg_12 (b : CPB h B n) : mg (cH h B s) (B + 12) 100 = True := cH_g (o := 12) (by decide) (b.k (12, 100, n + 1) (List.mem_of_getElem? (i := 12) rfl)).1
theorem cln_12 (b : CPB h B n) : mh_l (cH h B s) (B + 12) = n + 1 := (cH_l (a := B + 12) (by omega)).trans (b.k (12, 100, n + 1) (List.mem_of_getElem? (i := 12) rfl)).2
theorem cg_13 (b : CPB h B n) : mg (cH h B s) (B + 13) 100 = True := cH_g (o := 13) (by decide) (b.k (13, 100, n + 1) (List.mem_of_getElem? (i := 13) rfl)).1
theorem cln_13 (b : CPB h B n) : mh_l (cH h B s) (B + 13) = n + 1 := (cH_l (a := B + 13) (by omega)).trans (b.k (13, 100, n + 1) (List.mem_of_getElem? (i := 13) rfl)).2
theorem cg_14 (b : CPB h B n) : mg (cH h B s) (B + 14) 105 = True := cH_g (o := 14) (by decide) (b.k (14, 105, n / 3 + 2) (List.mem_of_getElem? (i := 14) rfl)).1
theorem cln_14 (b : CPB h B n) : mh_l (cH h B s) (B + 14) = n / 3 + 2 := (cH_l (a := B + 14) (by omega)).trans (b.k (14, 105, n / 3 + 2) (List.mem_of_getElem? (i := 14) rfl)).2
theorem cg_15 (b : CPB h B n) : mg (cH h B s) (B + 15) 100 = True := cH_g (o := 15) (by decide) (b.k (15, 100, 6 * (n / 9 + 2)) (List.mem_of_getElem? (i := 15) rfl)).1
theorem cln_15 (b : CPB h B n) : mh_l (cH h B s) (B + 15) = 6 * (n / 9 + 2) := (cH_l (a := B + 15) (by omega)).trans (b.k (15, 100, 6 * (n / 9 + 2)) (List.mem_of_getElem? (i := 15) rfl)).2
theorem cg_16 (b : CPB h B n) : mg (cH h B s) (B + 16) 3 = True := cH_g (o := 16) (by decide) (b.k (16, 3, 14) (List.mem_of_getElem? (i := 16) rfl)).1
theorem cg_17 (b : CPB h B n) : mg (cH h B s) (B + 17) 100 = True := cH_g (o := 17) (by decide) (b.k (17, 100, 62) (List.mem_of_getElem? (i := 17) rfl)).1
theorem cln_17 (b : CPB h B n) : mh_l (cH h B s) (B + 17) = 62 := (cH_l (a := B + 17) (by omega)).trans (b.k (17, 100, 62) (List.mem_of_getElem? (i := 17) rfl)).2
theorem cg_18 (b : CPB h B n) : mg (cH h B s) (B + 18) 6 = True := cH_g (o := 18) (by decide) (b.k (18, 6, 9) (List.mem_of_getElem? (i := 18) rfl)).1
theorem cg_19 (b : CPB h B n) : mg (cH h B s) (B + 19) 100 = True := cH_g (o := 19) (by decide) (b.k (19, 100, 62) (List.mem_of_getElem? (i := 19) rfl)).1
theorem cln_19 (b : CPB h B n) : mh_l (cH h B s) (B + 19) = 62 := (cH_l (a := B + 19) (by omega)).trans (b.k (19, 100, 62) (List.mem_of_getElem? (i := 19) rfl)).2
theorem cg_20 (b : CPB h B n) : mg (cH h B s) (B + 20) 100 = True := cH_g (o := 20) (by decide) (b.k (20, 100, n / 2 + 1) (List.mem_of_getElem? (i := 20) rfl)).1
theorem cln_20 (b : CPB h B n) : mh_l (cH h B s) (B + 20) = n / 2 + 1 := (cH_l (a := B + 20) (by omega)).trans (b.k (20, 100, n / 2 + 1) (List.mem_of_getElem? (i := 20) rfl)).2
theorem cg_21 (b : CPB h B n) : mg (cH h B s) (B + 21) 100 = True := cH_g (o := 21) (by decide) (b.k (21, 100, n / 2 + 1) (List.mem_of_getElem? (i := 21) rfl)).1
theorem cln_21 (b : CPB h B n) : mh_l (cH h B s) (B + 21) = n / 2 + 1 := (cH_l (a := B + 21) (by omega)).trans (b.k (21, 100, n / 2 + 1) (List.mem_of_getElem? (i := 21) rfl)).2
theorem cg_22 (b : CPB h B n) : mg (cH h B s) (B + 22) 100 = True := cH_g (o := 22) (by decide) (b.k (22, 100, n / 2 + 1) (List.mem_of_getElem? (i := 22) rfl)).1
theorem cln_22 (b : CPB h B n) : mh_l (cH h B s) (B + 22) = n / 2 + 1 := (cH_l (a := B + 22) (by omega)).trans (b.k (22, 100, n / 2 + 1) (List.mem_of_getElem? (i := 22) rfl)).2
theorem cg_23 (b : CPB h B n) : mg (cH h B s) (B + 23) 100 = True := cH_g (o := 23) (by decide) (b.k (23, 100, gL n) (List.mem_of_getElem? (i := 23) rfl)).1
theorem cln_23 (b : CPB h B n) : mh_l (cH h B s) (B + 23) = gL n := (cH_l (a := B + 23) (by omega)).trans (b.k (23, 100, gL n) (List.mem_of_getElem? (i := 23) rfl)).2
theorem ck_14 (b : CPB h B n) : mh_k (cH h B s) (B + 14) = 105 := (cH_k (by omega)).trans (b.k (14, 105, n / 3 + 2) (List.mem_of_getElem? (i := 14) rfl)).1
theorem cr_0_0 (b : CPB h B n) : mh_r (cH h B s) B 0 = some (B + 1) := (cH_r (a := B + 0) (by omega) (by omega) (by omega)).trans (b.r (0, 0, 1) (List.mem_of_getElem? (i := 0) rfl))
theorem cr_0_1 (b : CPB h B n) : mh_r (cH h B s) B 1 = some (B + 2) := (cH_r (a := B + 0) (by omega) (by omega) (by omega)).trans (b.r (0, 1, 2) (List.mem_of_getElem? (i := 1) rfl))
theorem cr_0_2 (b : CPB h B n) : mh_r (cH h B s) B 2 = some (B + 3) := (cH_r (a := B + 0) (by omega) (by omega) (by omega)).trans (b.r (0, 2, 3) (List.mem_of_getElem? (i := 2) rfl))
theorem cr_0_3 (b : CPB h B n) : mh_r (cH h B s) B 3 = some (B + 4) := (cH_r (a := B + 0) (by omega) (by omega) (by omega)).trans (b.r (0, 3, 4) (List.mem_of_getElem? (i := 3) rfl))
theorem cr_5_0 (b : CPB h B n) : mh_r (cH h B s) (B + 5) 0 = some (B + 6) := (cH_r (a := B + 5) (by omega) (by omega) (by omega)).trans (b.r (5, 0, 6) (List.mem_of_getElem? (i := 4) rfl))
theorem cr_5_2 (b : CPB h B n) : mh_r (cH h B s) (B + 5) 2 = some (B + 7) := (cH_r (a := B + 5) (by omega) (by omega) (by omega)).trans (b.r (5, 2, 7) (List.mem_of_getElem? (i := 5) rfl))
theorem cr_5_3 (b : CPB h B n) : mh_r (cH h B s) (B + 5) 3 = some (B + 8) := (cH_r (a := B + 5) (by omega) (by omega) (by omega)).trans (b.r (5, 3, 8) (List.mem_of_getElem? (i := 6) rfl))
theorem cr_5_4 (b : CPB h B n) : mh_r (cH h B s) (B + 5) 4 = some (B + 9) := (cH_r (a := B + 5) (by omega) (by omega) (by omega)).trans (b.r (5, 4, 9) (List.mem_of_getElem? (i := 7) rfl))
theorem cr_5_6 (b : CPB h B n) : mh_r (cH h B s) (B + 5) 6 = some (B + 10) := (cH_r (a := B + 5) (by omega) (by omega) (by omega)).trans (b.r (5, 6, 10) (List.mem_of_getElem? (i := 8) rfl))
theorem cr_5_7 (b : CPB h B n) : mh_r (cH h B s) (B + 5) 7 = some (B + 11) := (cH_r (a := B + 5) (by omega) (by omega) (by omega)).trans (b.r (5, 7, 11) (List.mem_of_getElem? (i := 9) rfl))
theorem cr_5_9 (b : CPB h B n) : mh_r (cH h B s) (B + 5) 9 = some (B + 12) := (cH_r (a := B + 5) (by omega) (by omega) (by omega)).trans (b.r (5, 9, 12) (List.mem_of_getElem? (i := 10) rfl))
theorem cr_5_10 (b : CPB h B n) : mh_r (cH h B s) (B + 5) 10 = some (B + 13) := (cH_r (a := B + 5) (by omega) (by omega) (by omega)).trans (b.r (5, 10, 13) (List.mem_of_getElem? (i := 11) rfl))
theorem cr_5_12 (b : CPB h B n) : mh_r (cH h B s) (B + 5) 12 = some (B + 14) := (cH_r (a := B + 5) (by omega) (by omega) (by omega)).trans (b.r (5, 12, 14) (List.mem_of_getElem? (i := 12) rfl))
theorem cr_5_14 (b : CPB h B n) : mh_r (cH h B s) (B + 5) 14 = some (B + 15) := (cH_r (a := B + 5) (by omega) (by omega) (by omega)).trans (b.r (5, 14, 15) (List.mem_of_getElem? (i := 13) rfl))
theorem cr_16_0 (b : CPB h B n) : mh_r (cH h B s) (B + 16) 0 = some B := (cH_r (a := B + 16) (by omega) (by omega) (by omega)).trans (b.r (16, 0, 0) (List.mem_of_getElem? (i := 14) rfl))
theorem cr_16_1 (b : CPB h B n) : mh_r (cH h B s) (B + 16) 1 = some (B + 5) := (cH_r (a := B + 16) (by omega) (by omega) (by omega)).trans (b.r (16, 1, 5) (List.mem_of_getElem? (i := 15) rfl))
theorem cr_16_2 (b : CPB h B n) : mh_r (cH h B s) (B + 16) 2 = some (B + 18) := (cH_r (a := B + 16) (by omega) (by omega) (by omega)).trans (b.r (16, 2, 18) (List.mem_of_getElem? (i := 16) rfl))
theorem cr_16_3 (b : CPB h B n) : mh_r (cH h B s) (B + 16) 3 = some (B + 23) := (cH_r (a := B + 16) (by omega) (by omega) (by omega)).trans (b.r (16, 3, 23) (List.mem_of_getElem? (i := 17) rfl))
theorem cr_16_9 (b : CPB h B n) : mh_r (cH h B s) (B + 16) 9 = some (B + 17) := (cH_r (a := B + 16) (by omega) (by omega) (by omega)).trans (b.r (16, 9, 17) (List.mem_of_getElem? (i := 18) rfl))
theorem cr_18_0 (b : CPB h B n) : mh_r (cH h B s) (B + 18) 0 = some B := (cH_r (a := B + 18) (by omega) (by omega) (by omega)).trans (b.r (18, 0, 0) (List.mem_of_getElem? (i := 19) rfl))
theorem cr_18_1 (b : CPB h B n) : mh_r (cH h B s) (B + 18) 1 = some (B + 20) := (cH_r (a := B + 18) (by omega) (by omega) (by omega)).trans (b.r (18, 1, 20) (List.mem_of_getElem? (i := 20) rfl))
theorem cr_18_2 (b : CPB h B n) : mh_r (cH h B s) (B + 18) 2 = some (B + 21) := (cH_r (a := B + 18) (by omega) (by omega) (by omega)).trans (b.r (18, 2, 21) (List.mem_of_getElem? (i := 21) rfl))
theorem cr_18_3 (b : CPB h B n) : mh_r (cH h B s) (B + 18) 3 = some (B + 22) := (cH_r (a := B + 18) (by omega) (by omega) (by omega)).trans (b.r (18, 3, 22) (List.mem_of_getElem? (i := 22) rfl))
theorem cr_18_5 (b : CPB h B n) : mh_r (cH h B s) (B + 18) 5 = some (B + 19) := (cH_r (a := B + 18) (by omega) (by omega) (by omega)).trans (b.r (18, 5, 19) (List.mem_of_getElem? (i := 23) rfl))
theorem cr_16_8 (hN : 0 < s.1 8) : mh_r (cH h B s) (B + 16) 8 = some (B + (23 + s.1 8)) := by
  show (if B + 24 ≤ B + 16 ∧ B + 16 < B + (24 + s.1 8) then none else if B + 16 = B + 14 ∧ 8 < s.1 8 then some (B + (24 + 8)) else if B + 16 = B + 16 ∧ 8 = 8 ∧ 0 < s.1 8 then some (B + (23 + s.1 8)) else mh_r h (B + 16) 8) = _
  rw [if_neg (by omega), if_neg (by omega), if_pos ⟨rfl, rfl, hN⟩]
theorem cr_14 (hk : k < s.1 8) : mh_r (cH h B s) (B + 14) k = some (B + (24 + k)) := by
  show (if B + 24 ≤ B + 14 ∧ B + 14 < B + (24 + s.1 8) then none else if B + 14 = B + 14 ∧ k < s.1 8 then some (B + (24 + k)) else if B + 14 = B + 16 ∧ k = 8 ∧ 0 < s.1 8 then some (B + (23 + s.1 8)) else mh_r h (B + 14) k) = _
  rw [if_neg (by omega), if_pos ⟨rfl, hk⟩]
theorem cg_S (h1 : 24 ≤ o) (h2 : o < 24 + s.1 8) : mg (cH h B s) (B + o) 9 = True := eq_true ⟨if_pos ⟨by omega, by omega⟩, by rw [cH_n]; omega⟩
end CHs
