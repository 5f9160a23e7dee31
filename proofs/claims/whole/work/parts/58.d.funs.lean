set_option maxRecDepth 100000
/-! a program as both sides know it: functions out of the tree -/
/-- what is below the g-th function -/
def fnA : tr → Nat → tr
  | .leaf _, _ => .leaf ()
  | .branch _ cs _, 0 => cs
  | .branch _ _ r, g + 1 => fnA r g
def prX : tr → cen → cen
  | .leaf _, L => L
  | .branch a _ r, L => if tK a = 13 then prX r (((tV a).toNat, 0) :: L) else L
def blX : tr → tr
  | .leaf _ => .leaf ()
  | .branch a bs r => if tK a = 13 then blX r else bs
def lyDs (sp : Nat → Nat → Bool) (H : Nat → Int32) (P : Nat → Nat) (T : tr) (c : Nat) : lyD := (sp, H, P, fun g => prX (tT (fnA T g)) [], fun g => blX (tT (fnA T g)), c, fun g => poZ T 1 g + 2 + (prX (tT (fnA T g)) []).length)
section FNs
variable {K : Nat → Int32} {P : Nat → Nat} {m : Nat} {sp : Nat → Nat → Bool} {s Sc Sf : cps} {f N g : Nat}
theorem prX_C {b0 : Nat} {bs : tr} (hb : tK b0 = 2) : ∀ r L, pmW r → prX (tC r (tNd b0 bs)) L = prL r L ∧ blX (tC r (tNd b0 bs)) = bs := by
  intro r
  induction r with
  | leaf u =>
    intro L _
    show (if tK b0 = 13 then prX (.leaf ()) (((tV b0).toNat, 0) :: L) else L) = L ∧ (if tK b0 = 13 then blX (.leaf ()) else bs) = bs
    rw [hb, if_neg (by decide), if_neg (by decide)]
    exact ⟨rfl, rfl⟩
  | branch a cs r _ ih =>
    intro L w
    obtain ⟨w1, w2, w3⟩ := w
    show (if tK a = 13 then prX (tC r (tNd b0 bs)) (((tV a).toNat, 0) :: L) else L) = prL r (((tV a).toNat, 0) :: L) ∧ (if tK a = 13 then blX (tC r (tNd b0 bs)) else cs) = bs
    rw [if_pos w1, if_pos w1]
    exact ih _ w3
theorem pmT_W : ∀ r i, pmT K P r i → pmW r := by
  intro r
  induction r with
  | leaf u => exact fun _ _ => trivial
  | branch a cs r _ ih => exact fun i w => ⟨w.1.1, w.1.2.2.1, ih _ w.2⟩
theorem sub_fn {Φ : tr → Prop} (h0 : ∀ u, Φ (.leaf u)) (h : ∀ n cs r, Φ (.branch n cs r) → Φ cs ∧ Φ r) : ∀ T, Φ T → ∀ g, Φ (fnA T g) := by
  intro T
  induction T with
  | leaf u => exact fun _ g => h0 ()
  | branch n cs r _ ih =>
    intro w g
    obtain ⟨w1, w2⟩ := h _ _ _ w
    cases g with
    | zero => exact w1
    | succ g => exact ih w2 g
theorem sub_bX {Φ : tr → Prop} (h0 : ∀ u, Φ (.leaf u)) (h : ∀ n cs r, Φ (.branch n cs r) → Φ cs ∧ Φ r) : ∀ t, Φ t → Φ (blX t) := by
  intro t
  induction t with
  | leaf u => exact fun _ => h0 ()
  | branch a bs r _ ih =>
    intro w
    obtain ⟨w1, w2⟩ := h _ _ _ w
    show Φ (if tK a = 13 then blX r else bs)
    by_cases c : tK a = 13
    · rw [if_pos c]; exact ih w2
    · rw [if_neg c]; exact w1
theorem sub_tT {Φ : tr → Prop} (h0 : ∀ u, Φ (.leaf u)) (h : ∀ n cs r, Φ (.branch n cs r) → Φ cs ∧ Φ r) (t : tr) (w : Φ t) : Φ (tT t) := by
  cases t with
  | leaf u => exact h0 u
  | branch n cs r => exact (h _ _ _ w).2
theorem sub_bl {Φ : tr → Prop} (h0 : ∀ u, Φ (.leaf u)) (h : ∀ n cs r, Φ (.branch n cs r) → Φ cs ∧ Φ r) (T : tr) (w : Φ T) (g : Nat) : Φ (blX (tT (fnA T g))) := sub_bX h0 h _ (sub_tT h0 h _ (sub_fn h0 h T w g))
theorem ts_bl (T : tr) (g : Nat) : ts (blX (tT (fnA T g))) ≤ ts T := sub_bl (Φ := fun t => ts t ≤ ts T) (fun _ => Nat.zero_le _) (fun n cs r w => by
  have w' : 1 + ts cs + ts r ≤ ts T := w
  exact ⟨by show ts cs ≤ ts T; omega, by show ts r ≤ ts T; omega⟩) T (Nat.le_refl _) g
/-- functions one by one -/
theorem fnZ_at : ∀ t g0 k g' k', fnZ sp s f t g0 k g' k' → (g' = g0 + tlc t ∧ k ≤ k') ∧ ∃ xs ys : Nat → Nat, ∀ i, i < tlc t → (k ≤ xs i ∧ xs i ≤ ys i ∧ ys i ≤ k') ∧ fnN sp s f (g0 + i) (fnA t i) (xs i) (ys i) ∧ (∀ j, i < j → j < tlc t → ys i ≤ xs j) ∧ (i + 1 = tlc t → ys i = k') := by
  intro t
  induction t with
  | leaf u =>
    intro g0 k g' k' w
    exact ⟨⟨w.1, Nat.le_of_eq w.2.symm⟩, fun _ => 0, fun _ => 0, fun i hi => absurd hi (Nat.not_lt_zero _)⟩
  | branch n cs r _ ih =>
    intro g0 k g' k' w
    obtain ⟨k1, ⟨w1, w2⟩, w3, w4⟩ := w
    obtain ⟨⟨i1, i2⟩, xs, ys, i3⟩ := ih _ _ _ _ w4
    have e : tlc (.branch n cs r) = tlc r + 1 := rfl
    refine ⟨⟨by rw [e]; omega, by omega⟩, fun i => if i = 0 then k else xs (i - 1), fun i => if i = 0 then k1 else ys (i - 1), fun i hi => ?_⟩
    rw [e] at hi ⊢
    cases i with
    | zero =>
      refine ⟨⟨Nat.le_refl _, w1, w2⟩, w3, fun j j1 j2 => ?_, fun z => ?_⟩
      · show k1 ≤ (if j = 0 then k else xs (j - 1))
        rw [if_neg (by omega)]
        exact (i3 (j - 1) (by omega)).1.1
      · show k1 = k'
        have : tlc r = 0 := by omega
        cases r with
        | leaf u => exact w4.2.symm
        | branch n' cs' r' => exact absurd this (Nat.succ_ne_zero _)
    | succ i =>
      obtain ⟨⟨j1, j2, j3⟩, j4, j5, j6⟩ := i3 i (by omega)
      refine ⟨⟨Nat.le_trans w1 j1, j2, j3⟩, ?_, fun j q1 q2 => ?_, fun z => j6 (by omega)⟩
      · rw [show g0 + (i + 1) = g0 + 1 + i from by omega]
        exact j4
      · show ys i ≤ (if j = 0 then k else xs (j - 1))
        rw [if_neg (by omega)]
        exact j5 (j - 1) (by omega) (by omega)
theorem fgZ_at : ∀ T, fgZ K P T → ∀ i, i < tlc T → fnG K P (fnA T i) := by
  intro T
  induction T with
  | leaf u => exact fun _ i hi => absurd hi (Nat.not_lt_zero _)
  | branch n cs r _ ih =>
    intro w i hi
    cases i with
    | zero => exact w.1
    | succ i => exact ih w.2 i (by have hi' : i + 1 < tlc r + 1 := hi; omega)
/-- parameters: slots, tokens -/
theorem pm_z {i0 : Nat} : ∀ r i L, pmT K P r i → i = i0 + 2 * L.length → cnZl L = L.length → cnAl L = 0 → (∀ j, j < L.length → zTk L j = i0 + 2 * j) → (∀ a z, (a, z) ∈ L → K a = 2 ∧ z = 0) → ((prL r L).length = L.length + tlc r ∧ cnZl (prL r L) = (prL r L).length ∧ cnAl (prL r L) = 0) ∧ (∀ j, j < (prL r L).length → zTk (prL r L) j = i0 + 2 * j) ∧ (∀ a z, (a, z) ∈ prL r L → K a = 2 ∧ z = 0) ∧ (0 < tlc r → K (i + 2 * (tlc r - 1)) = 2) := by
  intro r
  induction r with
  | leaf u => exact fun i L _ _ h1 h2 h3 h4 => ⟨⟨rfl, h1, h2⟩, h3, h4, fun z => absurd z (Nat.lt_irrefl _)⟩
  | branch a cs r _ ih =>
    intro i L w hi h1 h2 h3 h4
    obtain ⟨⟨w1, w2, w3, w4, -⟩, w5⟩ := w
    have ta : (tV a).toNat = i := by rw [w2]; exact Int.toNat_natCast i
    have e : prL (.branch a cs r) L = prL r ((i, 0) :: L) := by
      show prL r (((tV a).toNat, 0) :: L) = _
      rw [ta]
    have el : ((i, 0) :: L).length = L.length + 1 := rfl
    obtain ⟨⟨a1, a2, a3⟩, a4, a5, a6⟩ := ih (i + 2) ((i, 0) :: L) w5 (by rw [el]; omega) (by rw [cnZ_0, h1, el]) (by rw [cnA_0, h2]) (fun j hj => by
      show (if 0 = 0 ∧ cnZl L = j then i else zTk L j) = _
      rw [el] at hj
      by_cases c : cnZl L = j
      · rw [if_pos ⟨rfl, c⟩, hi, ← c, h1]
      · rw [if_neg (fun z => c z.2)]
        exact h3 j (by omega)) (fun x z q => by
      rcases List.mem_cons.mp q with q | q
      · cases q
        exact ⟨w4, rfl⟩
      · exact h4 x z q)
    rw [e]
    have et : tlc (.branch a cs r) = tlc r + 1 := rfl
    rw [et]
    refine ⟨⟨by rw [a1, el]; omega, a2, a3⟩, a4, a5, fun _ => ?_⟩
    by_cases c : tlc r = 0
    · rw [c]
      exact w4
    · have := a6 (by omega)
      rw [show i + 2 + 2 * (tlc r - 1) = i + 2 * (tlc r + 1 - 1) from by omega] at this
      exact this
theorem rpT_m : ∀ L : cen, rpT sp L = -1 ∨ ∃ a z, (a, z) ∈ L ∧ rpT sp L = Int32.ofNat a := by
  intro L
  induction L with
  | nil => exact Or.inl rfl
  | cons e r ih =>
    obtain ⟨a, z⟩ := e
    have e : rpT sp ((a, z) :: r) = if rpT sp r = -1 then (if twE sp r.length r a = true then Int32.ofNat a else -1) else rpT sp r := rfl
    rw [e]
    rcases ih with i | ⟨b, z', i1, i2⟩
    · rw [if_pos i]
      by_cases c : twE sp r.length r a = true
      · rw [if_pos c]
        exact Or.inr ⟨a, z, List.mem_cons_self, rfl⟩
      · rw [if_neg c]
        exact Or.inl rfl
    · by_cases c : rpT sp r = -1
      · rw [if_pos c]
        by_cases c2 : twE sp r.length r a = true
        · rw [if_pos c2]
          exact Or.inr ⟨a, z, List.mem_cons_self, rfl⟩
        · rw [if_neg c2]
          exact Or.inl rfl
      · rw [if_neg c]
        exact Or.inr ⟨b, z', List.mem_cons_of_mem _ i1, i2⟩
theorem gvT_B {n : Nat} {cs r : tr} : gvT (.branch n cs r) = if ts r = 0 then decide (tK n = 11) else gvT r := rfl
/-- what finish left wrong -/
theorem wfR_of {D : lyD} (hH : D.H = Sc.2 15) : ∀ N fb t k k' L b, stR D.sp Sc g N fb t k k' L b → (∀ x, k ≤ x → x < k' → (g + 1 = D.c ∧ fb = true ∧ gvT t = true ∧ x + 1 = k' → Sf.2 (24 + x) 5 = 7 ∧ Sf.2 (24 + x) 6 = Sc.2 (24 + x) 2) ∧ (¬ (g + 1 = D.c ∧ fb = true ∧ gvT t = true ∧ x + 1 = k') → Sf.2 (24 + x) 5 = Sc.2 (24 + x) 5 ∧ Sf.2 (24 + x) 6 = Sc.2 (24 + x) 6)) → wfR D Sf g N fb t k L b := by
  intro N
  induction N with
  | zero =>
    intro fb t k k' L b w _
    cases t with
    | leaf _ => trivial
    | branch n cs r => exact absurd w (fun z => z)
  | succ N ih =>
    intro fb t k k' L b w hx
    cases t with
    | leaf _ => trivial
    | branch n cs r =>
      have eT := stR_L (N + 1) _ _ _ _ _ _ w
      obtain ⟨k1, w1, w2⟩ := w
      have e2 := stR_L _ _ _ _ _ _ _ w2
      rw [stLq_S] at eT
      have sL : k1 = k + stS n cs := by omega
      have pS : 0 < stS n cs := stLq_1 (.branch n cs (.leaf ())) (by show 0 < 1 + ts cs + 0; omega)
      have pr : ¬ ts r = 0 → 0 < stLq r := fun z => stLq_1 r (by omega)
      obtain ⟨⟨f0, f1, f2, f3, f4, f5⟩, w1'⟩ := w1
      obtain ⟨x1, x2⟩ := hx k (Nat.le_refl _) (by omega)
      have gB := gvT_B (n := n) (cs := cs) (r := r)
      refine ⟨?_, ?_, ?_⟩
      · by_cases c : tK n = 11 ∧ (fb && decide (ts r = 0)) = true ∧ g + 1 = D.c
        · rw [if_pos c]
          obtain ⟨c1, c2, c3⟩ := c
          have c2' : fb = true ∧ ts r = 0 := by
            cases fb with
            | false => exact absurd c2 (by simp)
            | true => exact ⟨rfl, of_decide_eq_true (by simpa using c2)⟩
          obtain ⟨u, hu⟩ := ts_z c2'.2
          have s1 : stS n cs = 1 := by
            unfold stS
            rw [stLq_p (by omega) (by omega)]
            rfl
          have r0 : stLq r = 0 := by rw [hu]; rfl
          obtain ⟨y1, y2⟩ := x1 ⟨c3, c2'.1, by rw [gB, if_pos c2'.2]; exact decide_eq_true c1, by omega⟩
          rw [y1, y2, f2]
          rfl
        · rw [if_neg c]
          obtain ⟨y1, y2⟩ := x2 (fun z => c (by
            obtain ⟨z1, z2, z3, z4⟩ := z
            have r0 : ts r = 0 := Classical.byContradiction (fun q => by have := pr q; omega)
            rw [gB, if_pos r0] at z3
            exact ⟨of_decide_eq_true z3, by rw [z2, r0]; rfl, z1⟩))
          rw [y1, y2, f5, hH]
      · intro c cc b1 bs1 q ec k89
        have nog : ∀ x, x < k1 → ¬ (g + 1 = D.c ∧ fb = true ∧ gvT (.branch n cs r) = true ∧ x + 1 = k') := fun x hx1 z => by
          obtain ⟨z1, z2, z3, z4⟩ := z
          by_cases r0 : ts r = 0
          · rw [gB, if_pos r0] at z3
            have := of_decide_eq_true z3
            omega
          · have := pr r0
            omega
        have old : ∀ x y, k ≤ x → y ≤ k1 → ∀ z, x ≤ z → z < y → (g + 1 = D.c ∧ false = true ∧ gvT bs1 = true ∧ z + 1 = y → Sf.2 (24 + z) 5 = 7 ∧ Sf.2 (24 + z) 6 = Sc.2 (24 + z) 2) ∧ (¬ (g + 1 = D.c ∧ false = true ∧ gvT bs1 = true ∧ z + 1 = y) → Sf.2 (24 + z) 5 = Sc.2 (24 + z) 5 ∧ Sf.2 (24 + z) 6 = Sc.2 (24 + z) 6) := fun x y xk yk z z1 z2 => ⟨fun v => absurd v.2.1 (by decide), fun _ => (hx z (by omega) (by omega)).2 (nog z (by omega))⟩
        have old2 : ∀ bs2 : tr, ∀ x y, k ≤ x → y ≤ k1 → ∀ z, x ≤ z → z < y → (g + 1 = D.c ∧ false = true ∧ gvT bs2 = true ∧ z + 1 = y → Sf.2 (24 + z) 5 = 7 ∧ Sf.2 (24 + z) 6 = Sc.2 (24 + z) 2) ∧ (¬ (g + 1 = D.c ∧ false = true ∧ gvT bs2 = true ∧ z + 1 = y) → Sf.2 (24 + z) 5 = Sc.2 (24 + z) 5 ∧ Sf.2 (24 + z) 6 = Sc.2 (24 + z) 6) := fun _ x y xk yk z z1 z2 => ⟨fun v => absurd v.2.1 (by decide), fun _ => (hx z (by omega) (by omega)).2 (nog z (by omega))⟩
        rcases w1' with ⟨v, -⟩ | ⟨v, -⟩ | ⟨v, -⟩ | ⟨v, -⟩ | ⟨v, -⟩ | ⟨-, c', cc', b1', bs1', q', k2, c0', c1', ec', -, -, -, -, -, -, r1, r2⟩ | ⟨-, c', cc', b1', bs1', c0', c1', ec', -, -, -, -, -, r1⟩ | ⟨v, -⟩ | ⟨v, -⟩
        · omega
        · omega
        · omega
        · omega
        · omega
        · rw [ec] at ec'
          cases ec'
          have ek := stR_L _ _ _ _ _ _ _ r1
          rcases r2 with ⟨r2, ek2⟩ | ⟨b2', bs2', r2, r3⟩
          · refine ⟨ih _ _ _ _ _ _ r1 (old _ _ (by omega) (by omega)), fun b2 bs2 eq => ?_⟩
            rw [r2] at eq
            cases eq
          · have ek3 := stR_L _ _ _ _ _ _ _ r3
            refine ⟨ih _ _ _ _ _ _ r1 (old _ _ (by omega) (by omega)), fun b2 bs2 eq => ?_⟩
            rw [r2] at eq
            cases eq
            rw [← ek]
            exact ih _ _ _ _ _ _ r3 (old2 _ _ _ (by omega) (by omega))
        · rw [ec] at ec'
          cases ec'
          have ek := stR_L _ _ _ _ _ _ _ r1
          exact ⟨ih _ _ _ _ _ _ r1 (old _ _ (by omega) (by omega)), fun b2 bs2 eq => by cases eq⟩
        · omega
        · omega
      · rw [← sL]
        refine ih _ _ _ _ _ _ w2 (fun x h1 h2 => ?_)
        have nr : ¬ ts r = 0 := fun z => by
          obtain ⟨u, hu⟩ := ts_z z
          have : stLq r = 0 := by rw [hu]; rfl
          omega
        rw [gB, if_neg nr] at hx
        exact hx x (by omega) h2
end FNs
