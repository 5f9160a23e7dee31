set_option maxRecDepth 100000
/-! the tokens of a text: where they lie, how wide they are; the class's tokens stand -/
def tkG (B : Nat → Int32) (n : Nat) : Nat → tks → Prop
  | _, [] => True
  | lo, (k, p, w) :: r => (lo ≤ p ∧ p + w ≤ n ∧ (k ≠ 0 → k ≠ 1 → 1 ≤ w ∧ p < n) ∧ (k = 3 → 0 ≤ nvl B (n - p) p 0 ∧ nvl B (n - p) p 0 ≤ 2147483647) ∧ (k = 2 → isL (B p) = true ∧ (p + w < n → isL (B (p + w)) = false)) ∧ (k = 4 → w = 3 ∧ (p + 3 < n → isL (B (p + 3)) = false)) ∧ (0 < r.length → k ≠ 0 ∧ k ≠ 1)) ∧ tkG B n (p + w) r
section TGs
variable {B : Nat → Int32} {n i : Nat}
theorem tkG_w {lo lo' : Nat} (h : lo' ≤ lo) : ∀ T, tkG B n lo T → tkG B n lo' T := by
  intro T
  cases T with
  | nil => exact fun _ => trivial
  | cons e r =>
    obtain ⟨k, p, w⟩ := e
    intro z
    obtain ⟨⟨z1, z2⟩, z3⟩ := z
    exact ⟨⟨Nat.le_trans h z1, z2⟩, z3⟩
theorem cw_max {p : Int32 → Bool} : ∀ f i, cw p B f i < f → p (B (i + cw p B f i)) = false := by
  intro f
  induction f with
  | zero => exact fun i h => absurd h (Nat.not_lt_zero _)
  | succ f ih =>
    intro i h
    have e : cw p B (f + 1) i = if p (B i) = true then cw p B f (i + 1) + 1 else 0 := rfl
    rw [e] at h ⊢
    by_cases c : p (B i) = true
    · rw [if_pos c] at h ⊢
      have := ih (i + 1) (by omega)
      rw [show i + (cw p B f (i + 1) + 1) = i + 1 + cw p B f (i + 1) from by omega]
      exact this
    · rw [if_neg c]
      exact Bool.eq_false_iff.mpr c
theorem s2_r (b c : Int32) : s2 b c = 1 ∨ s2 b c = 128 ∨ s2 b c = 129 ∨ s2 b c = 130 ∨ s2 b c = 131 ∨ s2 b c = 132 ∨ s2 b c = 133 := by
  unfold s2
  repeat' split
  all_goals decide
theorem wdK_r {w : Nat} : (wdK B n i w = 4 ∧ w = 3) ∨ wdK B n i w = 5 ∨ wdK B n i w = 6 ∨ wdK B n i w = 7 ∨ wdK B n i w = 8 ∨ wdK B n i w = 9 ∨ wdK B n i w = 10 ∨ wdK B n i w = 11 ∨ wdK B n i w = 2 := by
  unfold wdK
  by_cases c0 : spl9 B n i w 10 = true
  · rw [if_pos c0]
    refine Or.inl ⟨rfl, ?_⟩
    unfold spl9 at c0
    by_cases q : w = xL 10
    · exact q.trans (by decide +kernel)
    · rw [if_neg q] at c0
      cases c0
  · rw [if_neg c0]
    refine Or.inr ?_
    repeat' split
    all_goals decide
theorem isS_n : ∀ c : Int32, isS c = true → c ≠ 2 ∧ c ≠ 3 ∧ c ≠ 4 ∧ c ≠ 0 := by
  intro c h
  refine ⟨fun e => ?_, fun e => ?_, fun e => ?_, fun e => ?_⟩ <;> (rw [e] at h; exact absurd h (by decide))
theorem tkD_w (h : ¬ tkD B n i = 1) : ¬ tkW B n i = 0 := fun z => h (by unfold tkD; rw [if_pos z])
theorem tkD_c (h : ¬ tkD B n i = 1) : (isL (B i) = true ∧ tkW B n i = cw (fun c => isL c || isG c) B (n - i) i ∧ tkD B n i = wdK B n i (tkW B n i)) ∨ (isG (B i) = true ∧ tkD B n i = 3 ∧ nvl B (n - i) i 0 ≤ 2147483647) ∨ (tkD B n i ≠ 2 ∧ tkD B n i ≠ 3 ∧ tkD B n i ≠ 4 ∧ tkD B n i ≠ 0) := by
  have w0 := tkD_w h
  have e : tkD B n i = tkA B n i (tkW B n i) := if_neg w0
  by_cases c1 : isL (B i) = true
  · refine Or.inl ⟨c1, ?_, ?_⟩
    · unfold tkW at w0 ⊢
      rw [if_pos c1] at w0 ⊢
      by_cases c2 : cw (fun c => isL c || isG c) B (n - i) i ≤ 30
      · rw [if_pos c2]
      · rw [if_neg c2] at w0
        exact absurd rfl w0
    · rw [e]
      unfold tkA
      rw [if_pos c1]
  · refine Or.inr ?_
    by_cases c2 : isG (B i) = true
    · refine Or.inl ⟨c2, ?_, ?_⟩
      · rw [e]
        unfold tkA
        rw [if_neg c1, if_pos c2]
      · have w : tkW B n i = nmW B n i := by unfold tkW; rw [if_neg c1, if_pos c2]
        rw [w] at w0
        unfold nmW at w0
        by_cases c3 : (1 < cw isG B (n - i) i ∧ B i = 48) ∨ isL (bt B n (i + cw isG B (n - i) i)) = true ∨ 2147483647 < nvl B (n - i) i 0
        · rw [if_pos c3] at w0
          exact absurd rfl w0
        · exact Int.not_lt.mp (fun z => c3 (Or.inr (Or.inr z)))
    · refine Or.inr ?_
      rw [e]
      unfold tkA
      rw [if_neg c1, if_neg c2]
      by_cases c3 : tkW B n i = 2
      · rw [if_pos c3]
        rcases s2_r (B i) (bt B n (i + 1)) with z | z | z | z | z | z | z <;> (rw [z]; decide)
      · rw [if_neg c3]
        have w : tkW B n i = (if s2 (B i) (bt B n (i + 1)) = 1 then (if isS (B i) = true then 1 else 0) else 2) := by
          show (if isL (B i) = true then _ else if isG (B i) = true then _ else _) = _
          rw [if_neg c1, if_neg c2]
        rw [w] at w0 c3
        by_cases c4 : s2 (B i) (bt B n (i + 1)) = 1
        · rw [if_pos c4] at w0
          by_cases c5 : isS (B i) = true
          · exact isS_n _ c5
          · rw [if_neg c5] at w0
            exact absurd rfl w0
        · rw [if_neg c4] at c3
          exact absurd rfl c3
theorem scn_G : ∀ f i, i ≤ n → tkG B n i (scn B n f i) := by
  intro f
  induction f with
  | zero => exact fun i hi => ⟨⟨hi, Nat.le_refl _, fun z => absurd rfl z, fun z => absurd z (by decide), fun z => absurd z (by decide), fun z => absurd z (by decide), fun z => absurd z (Nat.not_lt_zero _)⟩, trivial⟩
  | succ f ih =>
    intro i hi
    by_cases c : i < n
    · by_cases c1 : tkD B n i = 1
      · have e : scn B n (f + 1) i = [(1, i, tkW B n i)] := by show (if i < n then _ else _) = _; rw [if_pos c, if_pos c1]
        rw [e]
        exact ⟨⟨Nat.le_refl _, tkW_b c, fun _ z => absurd rfl z, fun z => absurd z (by decide), fun z => absurd z (by decide), fun z => absurd z (by decide), fun z => absurd z (Nat.not_lt_zero _)⟩, trivial⟩
      · have e : scn B n (f + 1) i = (tkD B n i, i, tkW B n i) :: scn B n f (bl B n (n - (i + tkW B n i)) false (i + tkW B n i)) := by show (if i < n then _ else _) = _; rw [if_pos c, if_neg c1]
        rw [e]
        have wb := tkW_b (B := B) c
        have w0 := tkD_w c1
        have hb := bl_b (B := B) (n := n) (n - (i + tkW B n i)) false (i + tkW B n i) (by omega)
        refine ⟨⟨Nat.le_refl _, wb, fun _ _ => ⟨by omega, c⟩, fun z => ?_, fun z => ?_, fun z => ?_, fun _ => ⟨?_, c1⟩⟩, tkG_w hb.1 _ (ih _ hb.2)⟩
        · rcases tkD_c c1 with ⟨_, _, q⟩ | ⟨_, _, q⟩ | q
          · rw [z] at q
            rcases wdK_r (B := B) (n := n) (i := i) (w := tkW B n i) with ⟨y, _⟩ | y | y | y | y | y | y | y | y <;> (rw [y] at q; exact absurd q (by decide))
          · exact ⟨(nvl_b (n - i) i 0 (by decide) (by decide)).1, q⟩
          · exact absurd z q.2.1
        · rcases tkD_c c1 with ⟨q, q1, _⟩ | ⟨_, q, _⟩ | q
          · refine ⟨q, fun h3 => ?_⟩
            have mx := cw_max (B := B) (p := fun c => isL c || isG c) (n - i) i (by omega)
            rw [← q1] at mx
            exact (Bool.or_eq_false_iff.mp mx).1
          · rw [z] at q
            exact absurd q (by decide)
          · exact absurd z q.1
        · rcases tkD_c c1 with ⟨_, q1, q⟩ | ⟨_, q, _⟩ | q
          · rw [z] at q
            have w3 : tkW B n i = 3 := by
              rcases wdK_r (B := B) (n := n) (i := i) (w := tkW B n i) with ⟨_, y⟩ | y | y | y | y | y | y | y | y
              · exact y
              all_goals (rw [y] at q; exact absurd q (by decide))
            refine ⟨w3, fun h3 => ?_⟩
            have mx := cw_max (B := B) (p := fun c => isL c || isG c) (n - i) i (by omega)
            rw [← q1, w3] at mx
            exact (Bool.or_eq_false_iff.mp mx).1
          · rw [z] at q
            exact absurd q (by decide)
          · exact absurd z q.2.2.1
        · rcases tkD_c c1 with ⟨_, _, q⟩ | ⟨_, q, _⟩ | q
          · rw [q]
            rcases wdK_r (B := B) (n := n) (i := i) (w := tkW B n i) with ⟨y, _⟩ | y | y | y | y | y | y | y | y <;> (rw [y]; decide)
          · rw [q]; decide
          · exact q.2.2.2
    · have e : scn B n (f + 1) i = [(0, n, 0)] := by show (if i < n then _ else _) = _; rw [if_neg c]
      rw [e]
      exact ⟨⟨hi, Nat.le_refl _, fun z => absurd rfl z, fun z => absurd z (by decide), fun z => absurd z (by decide), fun z => absurd z (by decide), fun z => absurd z (Nat.not_lt_zero _)⟩, trivial⟩
theorem tkG_i : ∀ T lo i, tkG B n lo T → i < T.length → lo ≤ tkPl T i ∧ tkPl T i + tkWd T i ≤ n ∧ (tkK T i ≠ 0 → tkK T i ≠ 1 → 1 ≤ tkWd T i ∧ tkPl T i < n) ∧ (tkK T i = 3 → 0 ≤ nvl B (n - tkPl T i) (tkPl T i) 0 ∧ nvl B (n - tkPl T i) (tkPl T i) 0 ≤ 2147483647) ∧ (tkK T i = 2 → isL (B (tkPl T i)) = true ∧ (tkPl T i + tkWd T i < n → isL (B (tkPl T i + tkWd T i)) = false)) ∧ (tkK T i = 4 → tkWd T i = 3 ∧ (tkPl T i + 3 < n → isL (B (tkPl T i + 3)) = false)) ∧ (i + 1 < T.length → tkPl T i + tkWd T i ≤ tkPl T (i + 1) ∧ tkK T i ≠ 0 ∧ tkK T i ≠ 1) := by
  intro T
  induction T with
  | nil => exact fun lo i _ h => absurd h (Nat.not_lt_zero _)
  | cons e r ih =>
    obtain ⟨k, p, w⟩ := e
    intro lo i z hi
    obtain ⟨⟨z1, z2, z3, z4, z5, z6, z8⟩, z7⟩ := z
    cases i with
    | zero =>
      refine ⟨z1, z2, z3, z4, z5, z6, fun h => ?_⟩
      have h' : 0 < r.length := by rw [List.length_cons] at h; omega
      exact ⟨(ih (p + w) 0 z7 h').1, z8 h'⟩
    | succ i =>
      have hi' : i < r.length := by rw [List.length_cons] at hi; omega
      obtain ⟨y1, y2, y3, y4, y5, y6, y7⟩ := ih (p + w) i z7 hi'
      exact ⟨Nat.le_trans z1 (Nat.le_trans (Nat.le_add_right _ _) y1), y2, y3, y4, y5, y6, fun h => y7 (by rw [List.length_cons] at h; omega)⟩
theorem toks_G : tkG B n 0 (toks B n) := tkG_w (Nat.zero_le _) _ (scn_G n _ (bl_b (B := B) (n := n) n false 0 (by omega)).2)
theorem toks_P : TPL (tkK (toks B n)) (tkPl (toks B n)) (toks B n).length := by
  intro i j hij hj c4 c2
  have G := fun x hx => tkG_i (B := B) (n := n) (toks B n) 0 x toks_G hx
  have st : ∀ x, x + 1 < (toks B n).length → tkPl (toks B n) x + 1 ≤ tkPl (toks B n) (x + 1) ∧ tkPl (toks B n) x < n := fun x hx => by
    obtain ⟨-, -, g3, -, -, -, g7⟩ := G x (by omega)
    obtain ⟨b1, b2, b3⟩ := g7 hx
    obtain ⟨a1, a2⟩ := g3 b2 b3
    exact ⟨by omega, a2⟩
  have mono : ∀ y x, x + y < (toks B n).length → tkPl (toks B n) x + y ≤ tkPl (toks B n) (x + y) := by
    intro y
    induction y with
    | zero => exact fun x _ => Nat.le_refl _
    | succ y ih =>
      intro x hx
      have a := ih x (by omega)
      have b := (st (x + y) (by omega)).1
      rw [show x + (y + 1) = x + y + 1 from by omega]
      omega
  obtain ⟨-, -, -, -, -, g6, g7⟩ := G i (by omega)
  obtain ⟨-, -, -, -, h5, -, -⟩ := G (i + 1) (by omega)
  obtain ⟨w3, nl⟩ := g6 c4
  have l2 := (h5 c2).1
  have a := (g7 (by omega)).1
  have lt := (st (i + 1) (by omega)).2
  have b := mono (j - (i + 1)) (i + 1) (by omega)
  rw [show i + 1 + (j - (i + 1)) = j from by omega] at b
  have ne : tkPl (toks B n) (i + 1) ≠ tkPl (toks B n) i + 3 := fun z => by
    have q := nl (by omega)
    rw [← z] at q
    rw [q] at l2
    cases l2
  omega
/-- what NAMEs take of the text -/
def wtL : tks → Nat
  | [] => 0
  | (k, _, w) :: r => (if k = 2 then w + 1 else 0) + wtL r
theorem wt_b : ∀ (r : tks) k p w lo, tkG B n lo ((k, p, w) :: r) → wtL ((k, p, w) :: r) ≤ (if k = 2 then n + 1 - p else n - p) := by
  intro r
  induction r with
  | nil =>
    intro k p w lo z
    obtain ⟨⟨z1, z2, -⟩, -⟩ := z
    show (if k = 2 then w + 1 else 0) + 0 ≤ _
    by_cases c : k = 2
    · rw [if_pos c, if_pos c]; omega
    · rw [if_neg c, if_neg c]; omega
  | cons e1 r1 ih =>
    intro k p w lo z
    obtain ⟨k', p', w'⟩ := e1
    obtain ⟨⟨z1, z2, z3, z4, z5, z6, z8⟩, z7⟩ := z
    have i1 := ih k' p' w' (p + w) z7
    obtain ⟨⟨y1, y2, y3, y4, y5, y6, y8⟩, y7⟩ := z7
    obtain ⟨kn0, kn1⟩ := z8 (by rw [List.length_cons]; omega)
    obtain ⟨w1, pn⟩ := z3 kn0 kn1
    have es : wtL ((k, p, w) :: (k', p', w') :: r1) = (if k = 2 then w + 1 else 0) + wtL ((k', p', w') :: r1) := rfl
    rw [es]
    generalize wtL ((k', p', w') :: r1) = S at i1 ⊢
    by_cases c : k = 2
    · rw [if_pos c, if_pos c]
      by_cases c' : k' = 2
      · rw [if_pos c'] at i1
        obtain ⟨q1, q2⟩ := y3 (by rw [c']; decide) (by rw [c']; decide)
        have ne : p' ≠ p + w := fun q => by
          have a := (y5 c').1
          have b := (z5 c).2 (by omega)
          rw [q, b] at a
          cases a
        omega
      · rw [if_neg c'] at i1
        omega
    · rw [if_neg c, if_neg c]
      by_cases c' : k' = 2
      · rw [if_pos c'] at i1
        omega
      · rw [if_neg c'] at i1
        omega
theorem toks_w : wtL (toks B n) ≤ n + 1 := by
  have G := toks_G (B := B) (n := n)
  cases h : toks B n with
  | nil => exact Nat.zero_le _
  | cons e r =>
    obtain ⟨k, p, w⟩ := e
    rw [h] at G
    have b := wt_b r k p w 0 G
    by_cases c : k = 2
    · rw [if_pos c] at b; omega
    · rw [if_neg c] at b; omega
end TGs
/-- the class's tokens stand -/
theorem CTK_of {h : mh_H} {B n : Nat} {Bt : Nat → Int32} (T : TB h B (B + 1) n Bt) (e : mh_i h B 4 = Int32.ofNat (toks Bt n).length) (l : (toks Bt n).length ≤ n + 1) (R : tkR (mh_i h (B + 2)) (mh_i h (B + 3)) (mh_i h (B + 4)) 0 (toks Bt n)) : CTK h B n (toks Bt n).length Bt (tkK (toks Bt n)) (tkPl (toks Bt n)) (tkWd (toks Bt n)) (fun i => nvl Bt (n - tkPl (toks Bt n) i) (tkPl (toks Bt n) i) 0) := by
  have g := fun i hi => tkR_g (toks Bt n) 0 i R hi
  have G := fun x hx => tkG_i (B := Bt) (n := n) (toks Bt n) 0 x toks_G hx
  refine CTK.of ⟨e, ⟨scn_1 _ _, l⟩, toks_M, fun i hi => ?_, fun i hi => ?_, fun i hi => ?_, fun i hi => ?_, fun i hi => (G i hi).2.1, fun i hi => ?_, T, fun i hi k3 => ⟨rfl, (G i hi).2.2.2.1 k3⟩⟩
  · have := (g i hi).1
    rw [Nat.zero_add] at this
    exact this
  · have := (g i hi).2.1
    rw [Nat.zero_add] at this
    exact this
  · have := (G i hi).2.1
    omega
  · have := (g i hi).2.2
    rw [Nat.zero_add] at this
    exact this
  · unfold tkK
    rw [List.getD_eq_getElem?_getD, List.getElem?_eq_none hi]
    rfl
