set_option maxRecDepth 100000
/-! DRAFTS: a tree in the reference's rows of drafts; where its nodes lie is reckoned from where it begins -/
/-- the node stands behind its first part (1), or in front of its parts (0); 2: a call without a NAME in front -/
def dSc (n : Nat) (cs : tr) : Nat := if tK n = 7 then (match cs with
    | .branch m _ _ => if tK m = 33 then 2 else 1
    | .leaf _ => 0) else if tK n = 3 ∨ tK n = 4 ∨ tK n = 5 ∨ tK n = 6 ∨ tK n = 14 ∨ tK n = 17 ∨ tK n = 20 ∨ tK n = 24 ∨ tK n = 25 ∨ (27 ≤ tK n ∧ tK n ≤ 32) then 1 else 0
def d1s (cs : tr) : Nat := match cs with
  | .branch _ c _ => 1 + ts c
  | .leaf _ => 0
def dOf (n : Nat) (cs : tr) : Nat := if dSc n cs = 0 then 0 else if dSc n cs = 1 then d1s cs else 1
/-- the first node of a row that begins at a, or -1 -/
def dHd (t : tr) (a : Nat) : Int32 := match t with
  | .branch n cs _ => Int32.ofNat (a + dOf n cs)
  | .leaf _ => -1
/-- a row from a on (or, with o, its first node alone, x behind it) -/
def dq6 (K P V F N : Nat → Int32) : tr → Bool → Nat → Int32 → Prop
  | .leaf _, _, _, _ => True
  | .branch n cs r, o, a, x => (K (a + dOf n cs) = Int32.ofNat (tK n) ∧ P (a + dOf n cs) = Int32.ofNat (tP n) ∧ (V (a + dOf n cs)).toInt = tV n) ∧
    (if dSc n cs = 0 then F a = dHd cs (a + 1) ∧ dq6 K P V F N cs false (a + 1) (-1)
      else if dSc n cs = 1 then (match cs with
        | .leaf _ => False
        | .branch m c r' => F (a + (1 + ts c)) = dHd (.branch m c (.leaf ())) a ∧ dq6 K P V F N (.branch m c r') true a (dHd r' (a + (1 + ts c) + 1)) ∧ dq6 K P V F N r' false (a + (1 + ts c) + 1) (-1))
      else (match cs with
        | .branch m c (.branch m' c' r') => ts c = 0 ∧ ts c' = 0 ∧ F (a + 1) = Int32.ofNat (a + 2) ∧ dq6 K P V F N (.branch m c (.branch m' c' r')) true (a + 2) (Int32.ofNat a) ∧ dq6 K P V F N (.branch m' c' r') true a (dHd r' (a + 3)) ∧ dq6 K P V F N r' false (a + 3) (-1)
        | _ => False)) ∧
    (if o = true then N (a + dOf n cs) = x else N (a + dOf n cs) = dHd r (a + (1 + ts cs)) ∧ dq6 K P V F N r false (a + (1 + ts cs)) (-1))
def dSz (t : tr) (o : Bool) : Nat := match t with
  | .branch _ cs r => if o = true then 1 + ts cs else 1 + ts cs + ts r
  | .leaf _ => 0
theorem dOf_b {n : Nat} {cs : tr} : dOf n cs ≤ ts cs := by
  unfold dOf
  by_cases c0 : dSc n cs = 0
  · rw [if_pos c0]; omega
  · rw [if_neg c0]
    by_cases c1 : dSc n cs = 1
    · rw [if_pos c1]
      cases cs with
      | leaf _ => exact Nat.le_refl _
      | branch m c r => show 1 + ts c ≤ 1 + ts c + ts r; omega
    · rw [if_neg c1]
      cases cs with
      | leaf _ =>
        exfalso
        unfold dSc at c0 c1
        by_cases z : tK n = 7
        · rw [if_pos z] at c0; exact c0 rfl
        · rw [if_neg z] at c0 c1
          by_cases y : tK n = 3 ∨ tK n = 4 ∨ tK n = 5 ∨ tK n = 6 ∨ tK n = 14 ∨ tK n = 17 ∨ tK n = 20 ∨ tK n = 24 ∨ tK n = 25 ∨ (27 ≤ tK n ∧ tK n ≤ 32)
          · rw [if_pos y] at c1; exact c1 rfl
          · rw [if_neg y] at c0; exact c0 rfl
      | branch m c r => show 1 ≤ 1 + ts c + ts r; omega
theorem ts_0 {n : Nat} {cs r : tr} : 1 ≤ ts (.branch n cs r) := by show 1 ≤ 1 + ts cs + ts r; omega
theorem dOf_0 {n : Nat} {cs : tr} (h : dSc n cs = 0) : dOf n cs = 0 := if_pos h
theorem dOf_1 {n m : Nat} {c r : tr} (h : dSc n (.branch m c r) = 1) : dOf n (.branch m c r) = 1 + ts c := by
  unfold dOf; rw [if_neg (by omega), if_pos h]; rfl
theorem dOf_2 {n : Nat} {cs : tr} (h0 : ¬ dSc n cs = 0) (h1 : ¬ dSc n cs = 1) : dOf n cs = 1 := by
  unfold dOf; rw [if_neg h0, if_neg h1]
/-- all places the same -/
def dEq (K P V F N K' P' V' F' N' : Nat → Int32) (a b : Nat) : Prop := ∀ y, a ≤ y → y < b → K' y = K y ∧ P' y = P y ∧ V' y = V y ∧ F' y = F y ∧ N' y = N y
section DQs
variable {K P V F N K' P' V' F' N' : Nat → Int32}
theorem dEq_s {a b a' b' : Nat} (h : dEq K P V F N K' P' V' F' N' a b) (h1 : a ≤ a') (h2 : b' ≤ b) : dEq K P V F N K' P' V' F' N' a' b' := fun y y1 y2 => h y (by omega) (by omega)
/-- what lies below a node -/
def dCh (K P V F N : Nat → Int32) (n : Nat) (cs : tr) (a : Nat) : Prop :=
    (if dSc n cs = 0 then F a = dHd cs (a + 1) ∧ dq6 K P V F N cs false (a + 1) (-1)
      else if dSc n cs = 1 then (match cs with
        | .leaf _ => False
        | .branch m c r' => F (a + (1 + ts c)) = dHd (.branch m c (.leaf ())) a ∧ dq6 K P V F N (.branch m c r') true a (dHd r' (a + (1 + ts c) + 1)) ∧ dq6 K P V F N r' false (a + (1 + ts c) + 1) (-1))
      else (match cs with
        | .branch m c (.branch m' c' r') => ts c = 0 ∧ ts c' = 0 ∧ F (a + 1) = Int32.ofNat (a + 2) ∧ dq6 K P V F N (.branch m c (.branch m' c' r')) true (a + 2) (Int32.ofNat a) ∧ dq6 K P V F N (.branch m' c' r') true a (dHd r' (a + 3)) ∧ dq6 K P V F N r' false (a + 3) (-1)
        | _ => False))
theorem dq_B {n : Nat} {cs r : tr} {o : Bool} {a : Nat} {x : Int32} : dq6 K P V F N (.branch n cs r) o a x = ((K (a + dOf n cs) = Int32.ofNat (tK n) ∧ P (a + dOf n cs) = Int32.ofNat (tP n) ∧ (V (a + dOf n cs)).toInt = tV n) ∧ dCh K P V F N n cs a ∧ (if o = true then N (a + dOf n cs) = x else N (a + dOf n cs) = dHd r (a + (1 + ts cs)) ∧ dq6 K P V F N r false (a + (1 + ts cs)) (-1))) := by
  rcases cs with _ | ⟨_, _, _ | ⟨_, _, _⟩⟩ <;> rfl
theorem dch_f {k : Nat} (ih : ∀ t o a x, ts t ≤ k → dEq K P V F N K' P' V' F' N' a (a + dSz t o) → dq6 K P V F N t o a x → dq6 K' P' V' F' N' t o a x) {n : Nat} {cs : tr} {a : Nat} (hk : ts cs ≤ k) (e : ∀ y, a ≤ y → y < a + (1 + ts cs) → K' y = K y ∧ P' y = P y ∧ V' y = V y ∧ F' y = F y ∧ (¬ y = a + dOf n cs → N' y = N y)) (w : dCh K P V F N n cs a) : dCh K' P' V' F' N' n cs a := by
  unfold dCh at w ⊢
  by_cases c0 : dSc n cs = 0
  · rw [if_pos c0] at w ⊢
    have e0 := dOf_0 c0
    obtain ⟨w1, w2⟩ := w
    refine ⟨((e a (Nat.le_refl _) (by omega)).2.2.2.1).trans w1, ih _ _ _ _ hk (fun y y1 y2 => ?_) w2⟩
    have q : dSz cs false ≤ ts cs := by
      cases cs with
      | leaf _ => exact Nat.le_refl _
      | branch _ _ _ => exact Nat.le_refl _
    obtain ⟨u1, u2, u3, u4, u5⟩ := e y (by omega) (by omega)
    exact ⟨u1, u2, u3, u4, u5 (by omega)⟩
  · rw [if_neg c0] at w ⊢
    by_cases c1 : dSc n cs = 1
    · rw [if_pos c1] at w ⊢
      rcases cs with _ | ⟨m, c, r'⟩
      · exact w
      · have e0 := dOf_1 c1
        obtain ⟨w1, w2, w3⟩ := w
        have hk' : 1 + ts c + ts r' ≤ k := hk
        have es : ts (.branch m c r') = 1 + ts c + ts r' := rfl
        have q1 : dSz r' false ≤ ts r' := by
          cases r' with
          | leaf _ => exact Nat.le_refl _
          | branch _ _ _ => exact Nat.le_refl _
        have q2 : dSz (.branch m c r') true = 1 + ts c := rfl
        refine ⟨((e (a + (1 + ts c)) (by omega) (by omega)).2.2.2.1).trans w1, ih _ _ _ _ hk (fun y y1 y2 => ?_) w2, ih _ _ _ _ (by omega) (fun y y1 y2 => ?_) w3⟩
        · rw [q2] at y2
          obtain ⟨u1, u2, u3, u4, u5⟩ := e y (by omega) (by omega)
          exact ⟨u1, u2, u3, u4, u5 (by omega)⟩
        · obtain ⟨u1, u2, u3, u4, u5⟩ := e y (by omega) (by omega)
          exact ⟨u1, u2, u3, u4, u5 (by omega)⟩
    · rw [if_neg c1] at w ⊢
      have e0 := dOf_2 c0 c1
      rcases cs with _ | ⟨m, c, _ | ⟨m', c', r'⟩⟩
      · exact w
      · exact w
      · obtain ⟨w0, w0', w1, w2, w3, w4⟩ := w
        have hk' : 1 + ts c + (1 + ts c' + ts r') ≤ k := hk
        have es : ts (.branch m c (.branch m' c' r')) = 1 + ts c + (1 + ts c' + ts r') := rfl
        have es' : ts (.branch m' c' r') = 1 + ts c' + ts r' := rfl
        have q1 : dSz r' false ≤ ts r' := by
          cases r' with
          | leaf _ => exact Nat.le_refl _
          | branch _ _ _ => exact Nat.le_refl _
        have q2 : dSz (.branch m c (.branch m' c' r')) true = 1 + ts c := rfl
        have q3 : dSz (.branch m' c' r') true = 1 + ts c' := rfl
        refine ⟨w0, w0', ((e (a + 1) (by omega) (by omega)).2.2.2.1).trans w1, ih _ _ _ _ hk (fun y y1 y2 => ?_) w2, ih _ _ _ _ (by omega) (fun y y1 y2 => ?_) w3, ih _ _ _ _ (by omega) (fun y y1 y2 => ?_) w4⟩
        · rw [q2] at y2
          obtain ⟨u1, u2, u3, u4, u5⟩ := e y (by omega) (by omega)
          exact ⟨u1, u2, u3, u4, u5 (by omega)⟩
        · rw [q3] at y2
          obtain ⟨u1, u2, u3, u4, u5⟩ := e y (by omega) (by omega)
          exact ⟨u1, u2, u3, u4, u5 (by omega)⟩
        · obtain ⟨u1, u2, u3, u4, u5⟩ := e y (by omega) (by omega)
          exact ⟨u1, u2, u3, u4, u5 (by omega)⟩
theorem dq_f : ∀ k t o a x, ts t ≤ k → dEq K P V F N K' P' V' F' N' a (a + dSz t o) → dq6 K P V F N t o a x → dq6 K' P' V' F' N' t o a x := by
  intro k
  induction k with
  | zero =>
    intro t o a x hk _ w
    cases t with
    | leaf _ => trivial
    | branch n cs r => have := ts_0 (n := n) (cs := cs) (r := r); omega
  | succ k ih =>
    intro t o a x hk e w
    cases t with
    | leaf _ => trivial
    | branch n cs r =>
      rw [dq_B] at w ⊢
      obtain ⟨⟨w1, w2, w3⟩, w4, w5⟩ := w
      have hk' : 1 + ts cs + ts r ≤ k + 1 := hk
      have ob := dOf_b (n := n) (cs := cs)
      have sz : 1 + ts cs ≤ dSz (.branch n cs r) o := by cases o; show 1 + ts cs ≤ 1 + ts cs + ts r; omega; exact Nat.le_refl _
      obtain ⟨u1, u2, u3, u4, u5⟩ := e (a + dOf n cs) (by omega) (by omega)
      refine ⟨⟨u1.trans w1, u2.trans w2, by rw [u3]; exact w3⟩, dch_f ih (by omega) (fun y y1 y2 => ?_) w4, ?_⟩
      · obtain ⟨v1, v2, v3, v4, v5⟩ := e y (by omega) (by omega)
        exact ⟨v1, v2, v3, v4, fun _ => v5⟩
      · cases o with
        | true => exact u5.trans w5
        | false =>
          obtain ⟨w6, w7⟩ := w5
          have q1 : dSz r false ≤ ts r := by
            cases r with
            | leaf _ => exact Nat.le_refl _
            | branch _ _ _ => exact Nat.le_refl _
          have sz2 : dSz (.branch n cs r) false = 1 + ts cs + ts r := rfl
          exact ⟨u5.trans w6, ih _ _ _ _ (by omega) (dEq_s e (by omega) (by omega)) w7⟩
/-- another node behind it -/
theorem dq_n {n : Nat} {cs r : tr} {a : Nat} {x x' : Int32} (e : ∀ y, a ≤ y → y < a + (1 + ts cs) → K' y = K y ∧ P' y = P y ∧ V' y = V y ∧ F' y = F y ∧ (¬ y = a + dOf n cs → N' y = N y)) (ex : N' (a + dOf n cs) = x') (w : dq6 K P V F N (.branch n cs r) true a x) : dq6 K' P' V' F' N' (.branch n cs r) true a x' := by
  rw [dq_B] at w ⊢
  obtain ⟨⟨w1, w2, w3⟩, w4, w5⟩ := w
  have ob := dOf_b (n := n) (cs := cs)
  obtain ⟨u1, u2, u3, u4, u5⟩ := e (a + dOf n cs) (by omega) (by omega)
  exact ⟨⟨u1.trans w1, u2.trans w2, by rw [u3]; exact w3⟩, dch_f (k := ts cs) (fun t o a x => dq_f (ts cs) t o a x) (Nat.le_refl _) e w4, ex⟩
/-- a node as a row of its own -/
theorem dq_1 {n : Nat} {cs r : tr} {a : Nat} (w : dq6 K P V F N (.branch n cs r) true a (-1)) : dq6 K P V F N (.branch n cs (.leaf ())) false a (-1) := by
  rw [dq_B] at w ⊢
  exact ⟨w.1, w.2.1, w.2.2, trivial⟩
theorem dq_o {n : Nat} {cs r r' : tr} {a : Nat} {x : Int32} (w : dq6 K P V F N (.branch n cs r) true a x) : dq6 K P V F N (.branch n cs r') true a x := by
  rw [dq_B] at w ⊢
  exact w
/-- a node in front of a row -/
theorem dq_A {n : Nat} {cs r r' : tr} {a : Nat} (w : dq6 K P V F N (.branch n cs r) true a (dHd r' (a + (1 + ts cs)))) (w2 : dq6 K P V F N r' false (a + (1 + ts cs)) (-1)) : dq6 K P V F N (.branch n cs r') false a (-1) := by
  rw [dq_B] at w ⊢
  exact ⟨w.1, w.2.1, w.2.2, w2⟩
end DQs
