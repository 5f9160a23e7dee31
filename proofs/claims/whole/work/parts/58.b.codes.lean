set_option maxRecDepth 100000
/-! the class's codes and parts of a SUM, by numbers of names -/
section CDl
variable {sp : Nat → Nat → Bool} {NL : List Nat} {L : cen} {nb na nn a : Nat} {rm : Nat → Nat} {sN : Int → Prop} {en : Int → Nat} {A : ab} {lo : lkt} {n m k q : Nat} {cs r cs' r' : tr} {C E T W : Nat → Int32} {tu : Bool}
theorem gx_cases (g : gxT (.branch n cs r) false) : (tK n = 12 ∧ iI (tV n)) ∨ tK n = 13 ∨ (tK n = 14 ∧ ∃ m c' r', cs = .branch m c' r' ∧ tK m = 13 ∧ ts c' = 0 ∧ gxT r' false) ∨ (tK n = 15 ∧ gxT cs false) ∨ (tK n = 16 ∧ ((∃ u, cs = .leaf u) ∨ ∃ l c1 g c2 r3, cs = .branch l c1 (.branch g c2 r3) ∧ ts c1 = 0 ∧ tK l = 12 ∧ tK g = 12 ∧ iI (tV l) ∧ iI (tV g))) ∨ ((tK n = 17 ∨ tK n = 20) ∧ ∃ m c' r', cs = .branch m c' r' ∧ gxT (.branch m c' r') false ∧ gxT r' true) := by
  rcases cs with u | ⟨m, c', _ | ⟨m2, c2, r2⟩⟩
  · have g' : (if tK n = 12 then iI (tV n) else if tK n = 13 then True else if tK n = 14 then False else if tK n = 15 then False else if tK n = 16 then True else ((tK n = 17 ∨ tK n = 20) ∧ False)) := g
    by_cases k12 : tK n = 12
    · rw [if_pos k12] at g'; exact Or.inl ⟨k12, g'⟩
    rw [if_neg k12] at g'
    by_cases k13 : tK n = 13
    · exact Or.inr (Or.inl k13)
    rw [if_neg k13] at g'
    by_cases k14 : tK n = 14
    · rw [if_pos k14] at g'; exact absurd g' (fun z => z)
    rw [if_neg k14] at g'
    by_cases k15 : tK n = 15
    · rw [if_pos k15] at g'; exact absurd g' (fun z => z)
    rw [if_neg k15] at g'
    by_cases k16 : tK n = 16
    · exact Or.inr (Or.inr (Or.inr (Or.inr (Or.inl ⟨k16, Or.inl ⟨u, rfl⟩⟩))))
    · rw [if_neg k16] at g'; exact absurd g'.2 (fun z => z)
  · rename_i u
    have g' : (if tK n = 12 then iI (tV n) else if tK n = 13 then True else if tK n = 14 then (tK m = 13 ∧ ts c' = 0 ∧ False) else if tK n = 15 then gxT (.branch m c' (.leaf u)) false else if tK n = 16 then False else ((tK n = 17 ∨ tK n = 20) ∧ gxT (.branch m c' (.leaf u)) false ∧ True)) := g
    by_cases k12 : tK n = 12
    · rw [if_pos k12] at g'; exact Or.inl ⟨k12, g'⟩
    rw [if_neg k12] at g'
    by_cases k13 : tK n = 13
    · exact Or.inr (Or.inl k13)
    rw [if_neg k13] at g'
    by_cases k14 : tK n = 14
    · rw [if_pos k14] at g'; exact absurd g'.2.2 (fun z => z)
    rw [if_neg k14] at g'
    by_cases k15 : tK n = 15
    · rw [if_pos k15] at g'; exact Or.inr (Or.inr (Or.inr (Or.inl ⟨k15, g'⟩)))
    rw [if_neg k15] at g'
    by_cases k16 : tK n = 16
    · rw [if_pos k16] at g'; exact absurd g' (fun z => z)
    · rw [if_neg k16] at g'
      exact Or.inr (Or.inr (Or.inr (Or.inr (Or.inr ⟨g'.1, m, c', _, rfl, g'.2.1, g'.2.2⟩))))
  · have g' : (if tK n = 12 then iI (tV n) else if tK n = 13 then True else if tK n = 14 then (tK m = 13 ∧ ts c' = 0 ∧ gxT (.branch m2 c2 r2) false) else if tK n = 15 then gxT (.branch m c' (.branch m2 c2 r2)) false else if tK n = 16 then (ts c' = 0 ∧ (tK m = 12 ∧ tK m2 = 12) ∧ iI (tV m) ∧ iI (tV m2)) else ((tK n = 17 ∨ tK n = 20) ∧ gxT (.branch m c' (.branch m2 c2 r2)) false ∧ gxT (.branch m2 c2 r2) true)) := g
    by_cases k12 : tK n = 12
    · rw [if_pos k12] at g'; exact Or.inl ⟨k12, g'⟩
    rw [if_neg k12] at g'
    by_cases k13 : tK n = 13
    · exact Or.inr (Or.inl k13)
    rw [if_neg k13] at g'
    by_cases k14 : tK n = 14
    · rw [if_pos k14] at g'; exact Or.inr (Or.inr (Or.inl ⟨k14, m, c', _, rfl, g'.1, g'.2.1, g'.2.2⟩))
    rw [if_neg k14] at g'
    by_cases k15 : tK n = 15
    · rw [if_pos k15] at g'; exact Or.inr (Or.inr (Or.inr (Or.inl ⟨k15, g'⟩)))
    rw [if_neg k15] at g'
    by_cases k16 : tK n = 16
    · rw [if_pos k16] at g'
      exact Or.inr (Or.inr (Or.inr (Or.inr (Or.inl ⟨k16, Or.inr ⟨m, c', m2, c2, r2, rfl, g'.1, g'.2.1.1, g'.2.1.2, g'.2.2.1, g'.2.2.2⟩⟩))))
    · rw [if_neg k16] at g'
      exact Or.inr (Or.inr (Or.inr (Or.inr (Or.inr ⟨g'.1, m, c', _, rfl, g'.2.1, g'.2.2⟩))))
theorem gx_L (g : gxT (.branch n cs r) true) : (tK n = 18 ∨ tK n = 19 ∨ tK n = 21 ∨ tK n = 22 ∨ tK n = 23) ∧ gxT cs false ∧ gxT r true := by rcases cs with _ | ⟨_, _, _ | ⟨_, _, _⟩⟩ <;> exact g
theorem jcd_L : cd en nb na rm C (.branch n cs r) true k = (cd en nb na rm C cs false k ∧ C (3 * (k + cl cs false)) = opb (tK n) ∧ cd en nb na rm C r true (k + cl cs false + 1)) := by rcases cs with _ | ⟨_, _, _ | ⟨_, _, _⟩⟩ <;> rfl
theorem jcd_12 (h : tK n = 12) : cd en nb na rm C (.branch n cs r) false k = (C (3 * k) = 1 ∧ (C (3 * k + 1)).toInt = tV n) := by
  rcases cs with _ | ⟨_, _, _ | ⟨_, _, _⟩⟩
  all_goals
    show (if tK n = 12 then _ else _) = _
    rw [if_pos h]
theorem jcd_13 (h : tK n = 13) : cd en nb na rm C (.branch n cs r) false k = (C (3 * k) = 2 ∧ ∃ s, C (3 * k + 1) = Int32.ofNat s ∧ en (tV n) = nb + s) := by
  rcases cs with _ | ⟨_, _, _ | ⟨_, _, _⟩⟩
  all_goals
    show (if tK n = 12 then _ else if tK n = 13 then _ else _) = _
    rw [if_neg (by omega), if_pos h]
theorem jcd_14 (h : tK n = 14) : cd en nb na rm C (.branch n (.branch m cs' r') r) false k = (cd en nb na rm C r' false k ∧ C (3 * (k + cl r' false)) = 3 ∧ (∃ s, C (3 * (k + cl r' false) + 1) = Int32.ofNat s ∧ en (tV m) = na + s) ∧ C (3 * (k + cl r' false) + 2) = Int32.ofNat (rm (en (tV m)))) := by
  rcases r' with _ | ⟨_, _, _⟩
  all_goals
    show (if tK n = 12 then _ else if tK n = 13 then _ else if tK n = 14 then _ else _) = _
    rw [if_neg (by omega), if_neg (by omega), if_pos h]
theorem jcd_15 (h : tK n = 15) : cd en nb na rm C (.branch n cs r) false k = (cd en nb na rm C cs false k ∧ C (3 * (k + cl cs false)) = 5) := by
  rcases cs with _ | ⟨_, _, _ | ⟨_, _, _⟩⟩
  all_goals
    show (if tK n = 12 then _ else if tK n = 13 then _ else if tK n = 14 then _ else if tK n = 15 then _ else _) = _
    rw [if_neg (by omega), if_neg (by omega), if_neg (by omega), if_pos h]
theorem jcd_16 {u : Unit} (h : tK n = 16) : cd en nb na rm C (.branch n (.leaf u) r) false k = (C (3 * k) = 4 ∧ (C (3 * k + 1)).toInt = -2147483648 ∧ (C (3 * k + 2)).toInt = 2147483647) := by
  show (if tK n = 12 then _ else if tK n = 13 then _ else if tK n = 14 then _ else if tK n = 15 then _ else if tK n = 16 then _ else _) = _
  rw [if_neg (by omega), if_neg (by omega), if_neg (by omega), if_neg (by omega), if_pos h]
theorem jcd_16b {l g : Nat} {c1 c2 r3 : tr} (h : tK n = 16) : cd en nb na rm C (.branch n (.branch l c1 (.branch g c2 r3)) r) false k = (C (3 * k) = 4 ∧ (C (3 * k + 1)).toInt = tV l ∧ (C (3 * k + 2)).toInt = tV g) := by
  show (if tK n = 12 then _ else if tK n = 13 then _ else if tK n = 14 then _ else if tK n = 15 then _ else if tK n = 16 then _ else _) = _
  rw [if_neg (by omega), if_neg (by omega), if_neg (by omega), if_neg (by omega), if_pos h]
theorem jcd_17 (h : ¬ tK n = 12 ∧ ¬ tK n = 13 ∧ ¬ tK n = 14 ∧ ¬ tK n = 15 ∧ ¬ tK n = 16) : cd en nb na rm C (.branch n (.branch m cs' r') r) false k = (cd en nb na rm C (.branch m cs' r') false k ∧ cd en nb na rm C r' true (k + cl (.branch m cs' r') false) ∧ 0 < ts r') := by
  obtain ⟨h1, h2, h3, h4, h5⟩ := h
  rcases r' with _ | ⟨_, _, _⟩
  all_goals
    show (if tK n = 12 then _ else if tK n = 13 then _ else if tK n = 14 then _ else if tK n = 15 then _ else if tK n = 16 then _ else _) = _
    rw [if_neg h1, if_neg h2, if_neg h3, if_neg h4, if_neg h5]
theorem cd_rn (O : LOQ sp NL L nb na nn a rm sN en) (hA : abQ A nn a rm) : ∀ t b k, gxT t b → (lwT (loE sp L) t).1 = 0 → cdx (loE sp L) C t b k → cd en nb na A.rm C (rn sp NL t) b k := by
  obtain ⟨a1, a2, a3⟩ := hA
  refine tr_in2 (fun u b k _ _ _ => by cases b <;> exact trivial) (fun n cs r hc hd hr b k g w x => ?_)
  obtain ⟨w1, w2⟩ := lw_0 w
  cases b with
  | true =>
    obtain ⟨g1, g2, g3⟩ := gx_L g
    rw [lwN_o (by omega) (by omega) (by omega)] at w1
    rw [cdx_L] at x
    obtain ⟨x1, x2, x3⟩ := x
    rw [rn_B, jcd_L, cl_rn, rn_K]
    exact ⟨hc false k g2 w1 x1, x2, hr true _ g3 w2 x3⟩
  | false =>
    rw [rn_B]
    rcases gx_cases g with ⟨k12, -⟩ | k13 | ⟨k14, m, c', r', ec, m13, c0, g3⟩ | ⟨k15, g1⟩ | ⟨k16, g1⟩ | ⟨k17, m, c', r', ec, g1, g2⟩
    · rw [cdx_12 k12] at x
      rw [jcd_12 (by rw [rn_K]; exact k12), rn_no (by omega)]
      exact x
    · rw [cdx_13 k13] at x
      rw [lwN_13 k13] at w1
      obtain ⟨s, e⟩ := lk_n w1
      obtain ⟨o1, o2, -⟩ := O _ _ _ e
      obtain ⟨o2, o3⟩ := o2 rfl
      have es : lkN (loE sp L) (tV n) = s := by unfold lkN; rw [e]
      rw [es] at x
      rw [jcd_13 (by rw [rn_K]; exact k13), rn_V k13]
      exact ⟨x.1, s, x.2, o2⟩
    · subst ec
      rw [cdx_14 k14] at x
      rw [lwN_14 k14] at w1
      obtain ⟨w3, w4⟩ := fw_00 w1
      obtain ⟨s, z, e, hz⟩ := lk_a w3
      obtain ⟨o1, -, o2⟩ := O _ _ _ e
      obtain ⟨o3, o4, o5, o6⟩ := o2 hz
      have es : lkA (loE sp L) (tV m) = (s, z) := by
        unfold lkA
        rw [e]
        show (if 0 < z then (s, z % 128) else (0, 1)) = (s, z)
        rw [if_pos hz, Nat.mod_eq_of_lt (by omega)]
      rw [es] at x
      obtain ⟨x1, x2, x3, x4⟩ := x
      rw [rn_B, jcd_14 (by rw [rn_K]; exact k14), cl_rn, rn_V m13, o3, a3 _ o4, o5]
      exact ⟨hd false k g3 w4 x1, x2, ⟨s, x3, rfl⟩, x4⟩
    · rw [cdx_15 k15] at x
      rw [lwN_o (by omega) (by omega) (by omega)] at w1
      rw [jcd_15 (by rw [rn_K]; exact k15), cl_rn]
      exact ⟨hc false k g1 w1 x.1, x.2⟩
    · rcases g1 with ⟨u, ec⟩ | ⟨l, c1, g9, c2, r3, ec, c0, l12, g12, -, -⟩
      · subst ec
        rw [cdx_16 k16] at x
        show cd en nb na A.rm C (.branch (rnN sp NL n) (.leaf u) (rn sp NL r)) false k
        rw [jcd_16 (by rw [rn_K]; exact k16)]
        exact x
      · subst ec
        rw [cdx_16b k16] at x
        rw [rn_B, rn_B, jcd_16b (by rw [rn_K]; exact k16), rn_no (n := l) (by omega), rn_no (n := g9) (by omega)]
        exact x
    · subst ec
      rw [cdx_17 ⟨by omega, by omega, by omega, by omega, by omega⟩] at x
      rw [lwN_o (by omega) (by omega) (by omega)] at w1
      obtain ⟨x1, x2, x3⟩ := x
      have c1 := cl_rn (sp := sp) (L := NL) (.branch m c' r') false
      rw [rn_B] at c1
      rw [rn_B, jcd_17 (by rw [rn_K]; exact ⟨by omega, by omega, by omega, by omega, by omega⟩), c1, ts_rn]
      exact ⟨hc false k g1 w1 x1, hd true _ g2 (lw_0 w1).2 x2, x3⟩
theorem jpe_L : pe E (.branch n cs r) true q k = (pe E cs false q k ∧ pe E r true (q + pn cs false) (k + cl cs false + 1)) := by rcases cs with _ | ⟨_, _, _⟩ <;> rfl
theorem jpe_15 (h : tK n = 15) : pe E (.branch n cs r) false q k = pe E cs false q k := by
  rcases cs with _ | ⟨_, _, _⟩
  all_goals
    show (if tK n = 15 then _ else _) = _
    rw [if_pos h]
theorem jpe_17 (h : tK n = 17) : pe E (.branch n (.branch m cs' r') r) false q k = (pe E (.branch m cs' r') false q k ∧ pe E r' true (q + pn (.branch m cs' r') false) (k + cl (.branch m cs' r') false)) := by
  show (if tK n = 15 then _ else if tK n = 17 then _ else _) = _
  rw [if_neg (by omega), if_pos h]
theorem jpe_1 (h : ¬ tK n = 15) (h2 : ¬ tK n = 17) : pe E (.branch n cs r) false q k = (E q = Int32.ofNat (k + cl (.branch n cs r) false)) := by
  rcases cs with _ | ⟨_, _, _⟩
  all_goals
    show (if tK n = 15 then _ else if tK n = 17 then _ else _) = _
    rw [if_neg h, if_neg h2]
theorem pax_17l {u : Unit} (h : tK n = 17) (x : pax lo E T W (.branch n (.leaf u) r) false tu q k) : False := by
  have x' : (if tK n = 15 then pax lo E T W (.leaf u) false (!tu) q k else if tK n = 17 then False else _) := x
  rw [if_neg (by omega), if_pos h] at x'
  exact x'
theorem pe_rn : ∀ t b tu q k, pax lo E T W t b tu q k → pe E (rn sp NL t) b q k := by
  refine tr_in2 (fun u b tu q k _ => by cases b <;> exact trivial) (fun n cs r hc hd hr b tu q k x => ?_)
  cases b with
  | true =>
    rw [pax_L] at x
    rw [rn_B, jpe_L, pn_rn, cl_rn]
    exact ⟨hc false _ q k x.1, hr true tu _ _ x.2⟩
  | false =>
    by_cases k15 : tK n = 15
    · rw [pax_15 k15] at x
      rw [rn_B, jpe_15 (by rw [rn_K]; exact k15)]
      exact hc false _ q k x
    by_cases k17 : tK n = 17
    · rcases cs with u | ⟨m, c', r'⟩
      · exact absurd x (fun z => pax_17l k17 z)
      · rw [pax_17 k17] at x
        have c1 := cl_rn (sp := sp) (L := NL) (.branch m c' r') false
        have p1 := pn_rn (sp := sp) (L := NL) (.branch m c' r') false
        rw [rn_B] at c1 p1
        rw [rn_B, rn_B, jpe_17 (by rw [rn_K]; exact k17), c1, p1]
        exact ⟨hc false tu q k x.1, hd true tu _ _ x.2⟩
    · rw [pax_1 k15 k17] at x
      have c1 := cl_rn (sp := sp) (L := NL) (.branch n cs r) false
      rw [rn_B] at c1
      rw [rn_B, jpe_1 (by rw [rn_K]; exact k15) (by rw [rn_K]; exact k17), c1]
      exact x.1
theorem ptr_ap : ∀ (ps : List pa) (t u : Nat → Int32) (qs : List pa), ptr nb t u ps → ptr nb (fun i => t (ps.length + i)) (fun i => u (ps.length + i)) qs → ptr nb t u (ps ++ qs) := by
  intro ps
  induction ps with
  | nil =>
    intro t u qs _ y i hi
    have := y i hi
    simp only [List.length_nil, Nat.zero_add] at this
    exact this
  | cons x l ih =>
    intro t u qs hx y i hi
    cases i with
    | zero => exact hx 0 (Nat.succ_pos _)
    | succ i =>
      refine ih (fun i => t (i + 1)) (fun i => u (i + 1)) qs (fun j hj => hx (j + 1) (Nat.succ_lt_succ hj)) (fun j hj => ?_) i (by simp only [List.cons_append, List.length_cons] at hi; omega)
      have := y j hj
      simp only [List.length_cons] at this
      rw [show l.length + 1 + j = l.length + j + 1 from by omega] at this
      exact this
theorem p1_v {n : Nat} : (p1 en A n cs r tu).1 = tu ∧ (p1 en A n cs r tu).2.1 = pk en n := by
  unfold p1
  cases (ev en A (.branch n cs r) none).1 <;> exact ⟨rfl, rfl⟩
theorem kb_i : kb tu = if tu = true then 1 else 0 := rfl
theorem ptr_rn (O : LOQ sp NL L nb na nn a rm sN en) (h12 : nn ≤ 12) : ∀ t b tu q k, gxT t b → (lwT (loE sp L) t).1 = 0 → pax (loE sp L) E T W t b tu q k → ptr nb (fun i => T (q + i)) (fun i => W (q + i)) (pt en A (rn sp NL t) b tu) := by
  refine tr_in2 (fun u b tu q k _ _ _ i hi => absurd hi (by cases b <;> exact Nat.not_lt_zero _)) (fun n cs r hc hd hr b tu q k g w x => ?_)
  obtain ⟨w1, w2⟩ := lw_0 w
  cases b with
  | true =>
    obtain ⟨g1, g2, g3⟩ := gx_L g
    rw [lwN_o (by omega) (by omega) (by omega)] at w1
    rw [pax_L] at x
    rw [rn_B, pt_L, rn_K]
    have l1 := (pt_len (en := en) (A := A) (rn sp NL cs) false (if tK n = 18 then tu else !tu)).1
    rw [pn_rn] at l1
    refine ptr_ap _ _ _ _ (hc false _ q k g2 w1 x.1) ?_
    rw [l1]
    have := hr true tu _ _ g3 w2 x.2
    intro i hi
    have := this i hi
    have e : ∀ x, q + pn cs false + x = q + (pn cs false + x) := fun x => by omega
    simp only [e] at this
    exact this
  | false =>
    rw [rn_B]
    by_cases k15 : tK n = 15
    · rw [pax_15 k15] at x
      rw [pt_15 (by rw [rn_K]; exact k15)]
      rw [lwN_o (by omega) (by omega) (by omega)] at w1
      rcases gx_cases g with ⟨z, -⟩ | z | ⟨z, -⟩ | ⟨-, g1⟩ | ⟨z, -⟩ | ⟨z, -⟩
      · omega
      · omega
      · omega
      · exact hc false _ q k g1 w1 x
      · omega
      · omega
    by_cases k17 : tK n = 17
    · rw [lwN_o (by omega) (by omega) (by omega)] at w1
      rcases gx_cases g with ⟨z, -⟩ | z | ⟨z, -⟩ | ⟨z, -⟩ | ⟨z, -⟩ | ⟨-, m, c', r', ec, g1, g2⟩
      · omega
      · omega
      · omega
      · omega
      · omega
      · subst ec
        rw [pax_17 k17] at x
        rw [rn_B, pt_17 (by rw [rn_K]; exact k17)]
        have l1 := (pt_len (en := en) (A := A) (rn sp NL (.branch m c' r')) false tu).1
        rw [pn_rn, rn_B] at l1
        have i1 := hc false tu q k g1 w1 x.1
        rw [rn_B] at i1
        refine ptr_ap _ _ _ _ i1 ?_
        rw [l1]
        have := hd true tu _ _ g2 (lw_0 w1).2 x.2
        intro i hi
        have := this i hi
        have e : ∀ x, q + pn (.branch m c' r') false + x = q + (pn (.branch m c' r') false + x) := fun x => by omega
        simp only [e] at this
        exact this
    · rw [pax_1 k15 k17] at x
      obtain ⟨x1, x2, x3⟩ := x
      rw [pt_1 (by rw [rn_K]; exact k15) (by rw [rn_K]; exact k17)]
      obtain ⟨v1, v2⟩ := p1_v (en := en) (A := A) (cs := rn sp NL cs) (r := rn sp NL r) (tu := tu) (n := rnN sp NL n)
      intro i hi
      have i0 : i = 0 := by
        have hi' : i < 1 := hi
        omega
      subst i0
      have e1 : (pq [p1 en A (rnN sp NL n) (rn sp NL cs) (rn sp NL r) tu] 0).1 = tu := v1
      have e2 : pqS [p1 en A (rnN sp NL n) (rn sp NL cs) (rn sp NL r) tu] 0 = pk en (rnN sp NL n) := v2
      rw [e1, e2]
      refine ⟨by show T (q + 0) = _; rw [Nat.add_zero, x2]; exact kb_i, ?_⟩
      show (_ ∧ W (q + 0) = -1) ∨ (_ ∧ W (q + 0) = -2) ∨ ∃ s, W (q + 0) = Int32.ofNat s ∧ _
      rw [Nat.add_zero, x3]
      unfold pk
      rw [rn_K]
      by_cases k13 : tK n = 13
      · rw [if_pos k13, if_pos k13, rn_V k13]
        rw [lwN_13 k13] at w1
        obtain ⟨s, e⟩ := lk_n w1
        obtain ⟨o1, o2, -⟩ := O _ _ _ e
        obtain ⟨o2, o3⟩ := o2 rfl
        have es : lkN (loE sp L) (tV n) = s := by unfold lkN; rw [e]
        rw [es, o2]
        exact Or.inr (Or.inr ⟨s, rfl, rfl, by omega⟩)
      · rw [if_neg k13, if_neg k13]
        by_cases k12 : tK n = 12
        · rw [if_pos k12, if_pos k12]
          exact Or.inl ⟨rfl, rfl⟩
        · rw [if_neg k12, if_neg k12]
          exact Or.inr (Or.inl ⟨rfl, rfl⟩)
end CDl
