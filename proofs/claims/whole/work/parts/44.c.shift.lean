set_option maxRecDepth 100000
/-! THE SPARE BOUND: work never passes 4001; the same run from another work -/
def R4 (rc : rc3) : Prop := ∀ p e s ω, wW ω ≤ 4001 → wW (rc p e s ω).2.1 ≤ 4001
section W4s
variable {G : pgm} {rc : rc3} {p : Nat} {S h s : Option ab} {ω : wd}
theorem wi_1 : wi s ≤ 1 := by
  cases s with
  | none => exact Nat.zero_le _
  | some A => exact Nat.le_refl _
theorem wl_w {al : Int32} : wW (wl p s al ω) = wW ω + wi s := rfl
theorem rnd_4 (R : R4 rc) (hw : wW ω ≤ 4000) : wW (rnd G rc p S h ω).2.2.1 ≤ 4001 := R (p + 1) (G.E p) (fo G p h).1 (wl p h (fo G p h).2.2 ω) (by rw [wl_w]; have := wi_1 (s := h); omega)
theorem clm_4 (R : R4 rc) : ∀ g h told n be ω mx k, wW ω ≤ 4001 → wW (clm G rc p S g h told n be ω mx k).2.2.2.1 ≤ 4001 := by
  intro g
  induction g with
  | zero => exact fun h told n be ω mx k hw => hw
  | succ g ih =>
    intro h told n be ω mx k hw
    rw [clm_1]
    by_cases q : o_le n told ∨ 4000 < wW ω
    · rw [if_pos q]; exact hw
    · rw [if_neg q]
      exact ih _ _ _ _ _ _ _ (rnd_4 (S := S) R (by have : ¬ 4000 < wW ω := fun z => q (Or.inr z); omega))
theorem trs_4 (R : R4 rc) : ∀ g h n be ω mx, wW ω ≤ 4001 → wW (trs G rc p S g h n be ω mx).2.2.1 ≤ 4001 := by
  intro g
  induction g with
  | zero => exact fun h n be ω mx hw => hw
  | succ g ih =>
    intro h n be ω mx hw
    rw [trs_1]
    by_cases q : (o_le n h ∧ o_le h n) ∨ 4000 < wW ω
    · rw [if_pos q]; exact hw
    · rw [if_neg q]
      have r := rnd_4 (G := G) (p := p) (S := S) (h := n) (ω := ω) R (by have : ¬ 4000 < wW ω := fun z => q (Or.inr z); omega)
      split
      · exact ih _ _ _ _ _ r
      · exact r
theorem finD_4 (R : R4 rc) {t : Option ab × Option ab × wd × Nat} (hw : wW t.2.2.1 ≤ 4001) : wW (finD G rc p S t).2.1 ≤ 4001 := by
  unfold finD
  split
  · exact hw
  · exact rnd_4 (S := S) R (by omega)
theorem lop_4 (R : R4 rc) (hw : wW ω ≤ 4000) : wW (lop G rc p S ω).2.1 ≤ 4001 := by
  rw [lop_D]
  unfold clmD trsD
  exact finD_4 R (trs_4 R _ _ _ _ _ _ (clm_4 R _ _ _ _ _ _ _ _ (rnd_4 (S := S) R hw)))
theorem DS_41 (R : R4 rc) (hw : wW ω ≤ 4000) : wW (DS G rc p s ω).2.1 ≤ 4001 := by
  have hl : wW (wl p s (fo G p s).2.2 ω) ≤ 4001 := by rw [wl_w]; have := wi_1 (s := s); omega
  by_cases k4 : G.kd p = 4
  · rw [DS_4 k4]; exact R _ _ _ _ hl
  · by_cases k5 : G.kd p = 5
    · rw [DS_5 k5]; exact R _ _ _ _ (R _ _ _ _ hl)
    · by_cases k6 : G.kd p = 6
      · cases s with
        | none => rw [DS_6n k6]; exact rnd_4 (S := none) R hw
        | some A => rw [DS_6s k6]; exact lop_4 R hw
      · rw [DS_x k4 k5 k6]; exact hl
end W4s
theorem DB_4 (G : pgm) : ∀ f, R4 (DB G f) := by
  intro f
  induction f with
  | zero => exact fun p e s ω hw => hw
  | succ f ih =>
    intro p e s ω hw
    by_cases c : p < e ∧ wW ω ≤ 4000
    · rw [DB_s c.1 c.2]
      exact ih _ _ _ _ (DS_41 ih c.2)
    · have e0 : DB G (f + 1) p e s ω = (s, ω, 0) := by unfold DB; rw [if_neg c]
      rw [e0]; exact hw
/-! the same from another work -/
def RS' (rc : rc3) : Prop := ∀ p e s ω ω' c, wW (rc p e s ω).2.1 = wW ω + c → wW ω + c ≤ 4000 → wW ω' + c ≤ 4000 → (rc p e s ω').1 = (rc p e s ω).1 ∧ wW (rc p e s ω').2.1 = wW ω' + c
section SHi
variable {G : pgm} {rc : rc3} {p : Nat} {S h s : Option ab} {ω ω' : wd} {c : Nat}
theorem rnd_S (R : RS' rc) (W : RW rc) (e : wW (rnd G rc p S h ω).2.2.1 = wW ω + c) (h1 : wW ω + c ≤ 4000) (h2 : wW ω' + c ≤ 4000) : (rnd G rc p S h ω').1 = (rnd G rc p S h ω).1 ∧ (rnd G rc p S h ω').2.1 = (rnd G rc p S h ω).2.1 ∧ wW (rnd G rc p S h ω').2.2.1 = wW ω' + c := by
  have w1 := W (p + 1) (G.E p) (fo G p h).1 (wl p h (fo G p h).2.2 ω)
  have e' : wW (rc (p + 1) (G.E p) (fo G p h).1 (wl p h (fo G p h).2.2 ω)).2.1 = wW ω + c := e
  rw [wl_w] at w1
  obtain ⟨q1, q2⟩ := R (p + 1) (G.E p) (fo G p h).1 (wl p h (fo G p h).2.2 ω) (wl p h (fo G p h).2.2 ω') (c - wi h) (by rw [wl_w, e']; omega) (by rw [wl_w]; omega) (by rw [wl_w]; omega)
  rw [wl_w] at q2
  refine ⟨?_, rfl, ?_⟩
  · show o_join S (o_keep (G.n p) (G.a p) _) = o_join S (o_keep (G.n p) (G.a p) _)
    rw [q1]
  · show wW (rc (p + 1) (G.E p) (fo G p h).1 (wl p h (fo G p h).2.2 ω')).2.1 = _
    rw [q2]; omega
theorem clm_S (R : RS' rc) (W : RW rc) : ∀ g h told n be ω ω' mx mx' k c, wW (clm G rc p S g h told n be ω mx k).2.2.2.1 = wW ω + c → wW ω + c ≤ 4000 → wW ω' + c ≤ 4000 → (clm G rc p S g h told n be ω' mx' k).1 = (clm G rc p S g h told n be ω mx k).1 ∧ (clm G rc p S g h told n be ω' mx' k).2.1 = (clm G rc p S g h told n be ω mx k).2.1 ∧ (clm G rc p S g h told n be ω' mx' k).2.2.1 = (clm G rc p S g h told n be ω mx k).2.2.1 ∧ wW (clm G rc p S g h told n be ω' mx' k).2.2.2.1 = wW ω' + c := by
  intro g
  induction g with
  | zero =>
    intro h told n be ω ω' mx mx' k c e h1 h2
    have e' : wW ω = wW ω + c := e
    exact ⟨rfl, rfl, rfl, by show wW ω' = _; omega⟩
  | succ g ih =>
    intro h told n be ω ω' mx mx' k c e h1 h2
    rw [clm_1] at e ⊢
    rw [clm_1 (ω := ω) (mx := mx)]
    by_cases q : o_le n told
    · have q1 : o_le n told ∨ 4000 < wW ω := Or.inl q
      have q2 : o_le n told ∨ 4000 < wW ω' := Or.inl q
      rw [if_pos q1] at e ⊢
      rw [if_pos q2]
      have e' : wW ω = wW ω + c := e
      exact ⟨rfl, rfl, rfl, by show wW ω' = _; omega⟩
    · have q1 : ¬ (o_le n told ∨ 4000 < wW ω) := fun z => z.elim q (fun z => by omega)
      have q2 : ¬ (o_le n told ∨ 4000 < wW ω') := fun z => z.elim q (fun z => by omega)
      rw [if_neg q1] at e ⊢
      rw [if_neg q2]
      generalize (if k ≤ 2 then o_join h n else o_cl (o_wid told n)) = h' at *
      generalize (if k ≤ 2 then o_join h n else o_wid told n) = told' at *
      have w1 : wW ω + wi h' ≤ wW (rnd G rc p S h' ω).2.2.1 := rnd_w W
      have w2 := clm_w (G := G) (p := p) (S := S) W g h' told' (rnd G rc p S h' ω).1 (rnd G rc p S h' ω).2.1 (rnd G rc p S h' ω).2.2.1 (max mx (4 + (rnd G rc p S h' ω).2.2.2)) (k + 1)
      obtain ⟨a1, a2, a3⟩ := rnd_S (G := G) (p := p) (S := S) (h := h') (ω := ω) (ω' := ω') (c := wW (rnd G rc p S h' ω).2.2.1 - wW ω) R W (by omega) (by omega) (by omega)
      rw [a1, a2]
      obtain ⟨b1, b2, b3, b4⟩ := ih h' told' (rnd G rc p S h' ω).1 (rnd G rc p S h' ω).2.1 (rnd G rc p S h' ω).2.2.1 (rnd G rc p S h' ω').2.2.1 (max mx (4 + (rnd G rc p S h' ω).2.2.2)) (max mx' (4 + (rnd G rc p S h' ω').2.2.2)) (k + 1) (wW ω + c - wW (rnd G rc p S h' ω).2.2.1) (by omega) (by omega) (by omega)
      exact ⟨b1, b2, b3, by omega⟩
theorem trs_S (R : RS' rc) (W : RW rc) : ∀ g h n be ω ω' mx mx' c, wW (trs G rc p S g h n be ω mx).2.2.1 = wW ω + c → wW ω + c ≤ 4000 → wW ω' + c ≤ 4000 → (trs G rc p S g h n be ω' mx').1 = (trs G rc p S g h n be ω mx).1 ∧ (trs G rc p S g h n be ω' mx').2.1 = (trs G rc p S g h n be ω mx).2.1 ∧ wW (trs G rc p S g h n be ω' mx').2.2.1 = wW ω' + c := by
  intro g
  induction g with
  | zero =>
    intro h n be ω ω' mx mx' c e h1 h2
    have e' : wW ω = wW ω + c := e
    exact ⟨rfl, rfl, by show wW ω' = _; omega⟩
  | succ g ih =>
    intro h n be ω ω' mx mx' c e h1 h2
    rw [trs_1] at e ⊢
    rw [trs_1 (ω := ω) (mx := mx)]
    by_cases q : o_le n h ∧ o_le h n
    · rw [if_pos (Or.inl q)] at e ⊢
      rw [if_pos (Or.inl q)]
      have e' : wW ω = wW ω + c := e
      exact ⟨rfl, rfl, by show wW ω' = _; omega⟩
    · have q1 : ¬ ((o_le n h ∧ o_le h n) ∨ 4000 < wW ω) := fun z => z.elim q (fun z => by omega)
      have q2 : ¬ ((o_le n h ∧ o_le h n) ∨ 4000 < wW ω') := fun z => z.elim q (fun z => by omega)
      rw [if_neg q1] at e ⊢
      rw [if_neg q2]
      have w1 : wW ω + wi n ≤ wW (rnd G rc p S n ω).2.2.1 := rnd_w W
      by_cases l : o_le (rnd G rc p S n ω).1 n
      · rw [if_pos l] at e ⊢
        have w2 := trs_w (G := G) (p := p) (S := S) W g n (rnd G rc p S n ω).1 (rnd G rc p S n ω).2.1 (rnd G rc p S n ω).2.2.1 (max mx (6 + (rnd G rc p S n ω).2.2.2))
        obtain ⟨a1, a2, a3⟩ := rnd_S (G := G) (p := p) (S := S) (h := n) (ω := ω) (ω' := ω') (c := wW (rnd G rc p S n ω).2.2.1 - wW ω) R W (by omega) (by omega) (by omega)
        rw [if_pos (by rw [a1]; exact l), a1, a2]
        obtain ⟨b1, b2, b3⟩ := ih n (rnd G rc p S n ω).1 (rnd G rc p S n ω).2.1 (rnd G rc p S n ω).2.2.1 (rnd G rc p S n ω').2.2.1 (max mx (6 + (rnd G rc p S n ω).2.2.2)) (max mx' (6 + (rnd G rc p S n ω').2.2.2)) (wW ω + c - wW (rnd G rc p S n ω).2.2.1) (by omega) (by omega) (by omega)
        exact ⟨b1, b2, by omega⟩
      · rw [if_neg l] at e ⊢
        have e' : wW (rnd G rc p S n ω).2.2.1 = wW ω + c := e
        obtain ⟨a1, a2, a3⟩ := rnd_S (G := G) (p := p) (S := S) (h := n) (ω := ω) (ω' := ω') (c := c) R W e' h1 h2
        rw [if_neg (by rw [a1]; exact l)]
        exact ⟨rfl, a2, a3⟩
theorem finD_S (R : RS' rc) (W : RW rc) {t t' : Option ab × Option ab × wd × Nat} (e1 : t'.1 = t.1) (e2 : t'.2.1 = t.2.1) (e : wW (finD G rc p S t).2.1 = wW t.2.2.1 + c) (h1 : wW t.2.2.1 + c ≤ 4000) (h2 : wW t'.2.2.1 + c ≤ 4000) : (finD G rc p S t').1 = (finD G rc p S t).1 ∧ wW (finD G rc p S t').2.1 = wW t'.2.2.1 + c := by
  unfold finD at e ⊢
  rw [if_neg (by omega)] at e ⊢
  rw [if_neg (by omega)]
  dsimp only at e ⊢
  obtain ⟨a1, a2, a3⟩ := rnd_S (G := G) (p := p) (S := S) (h := t.1) (ω := t.2.2.1) (ω' := t'.2.2.1) (c := c) R W e h1 h2
  rw [e1]
  exact ⟨a2, a3⟩
theorem lop_S (R : RS' rc) (W : RW rc) (e : wW (lop G rc p S ω).2.1 = wW ω + c) (h1 : wW ω + c ≤ 4000) (h2 : wW ω' + c ≤ 4000) : (lop G rc p S ω').1 = (lop G rc p S ω).1 ∧ wW (lop G rc p S ω').2.1 = wW ω' + c := by
  rw [lop_D] at e ⊢
  rw [lop_D (ω := ω)]
  unfold clmD trsD at e ⊢
  have w1 : wW ω + wi S ≤ wW (rnd G rc p S S ω).2.2.1 := rnd_w W
  have w2 := clm_w (G := G) (p := p) (S := S) W 4001 S S (rnd G rc p S S ω).1 (rnd G rc p S S ω).2.1 (rnd G rc p S S ω).2.2.1 (4 + (rnd G rc p S S ω).2.2.2) 1
  generalize eC : clm G rc p S 4001 S S (rnd G rc p S S ω).1 (rnd G rc p S S ω).2.1 (rnd G rc p S S ω).2.2.1 (4 + (rnd G rc p S S ω).2.2.2) 1 = C at *
  have w3 := trs_w (G := G) (p := p) (S := S) W 2 C.1 C.2.1 C.2.2.1 C.2.2.2.1 C.2.2.2.2
  generalize eT : trs G rc p S 2 C.1 C.2.1 C.2.2.1 C.2.2.2.1 C.2.2.2.2 = T at *
  have w4 := finD_w (G := G) (p := p) (S := S) (t := T) W
  obtain ⟨a1, a2, a3⟩ := rnd_S (G := G) (p := p) (S := S) (h := S) (ω := ω) (ω' := ω') (c := wW (rnd G rc p S S ω).2.2.1 - wW ω) R W (by omega) (by omega) (by omega)
  rw [a1, a2]
  obtain ⟨b1, b2, b3, b4⟩ := clm_S (G := G) (p := p) (S := S) R W 4001 S S (rnd G rc p S S ω).1 (rnd G rc p S S ω).2.1 (rnd G rc p S S ω).2.2.1 (rnd G rc p S S ω').2.2.1 (4 + (rnd G rc p S S ω).2.2.2) (4 + (rnd G rc p S S ω').2.2.2) 1 (wW C.2.2.2.1 - wW (rnd G rc p S S ω).2.2.1) (by rw [eC]; omega) (by omega) (by omega)
  rw [eC] at b1 b2 b3
  generalize eC' : clm G rc p S 4001 S S (rnd G rc p S S ω).1 (rnd G rc p S S ω).2.1 (rnd G rc p S S ω').2.2.1 (4 + (rnd G rc p S S ω').2.2.2) 1 = C' at *
  rw [b1, b2, b3]
  obtain ⟨c1, c2, c3⟩ := trs_S (G := G) (p := p) (S := S) R W 2 C.1 C.2.1 C.2.2.1 C.2.2.2.1 C'.2.2.2.1 C.2.2.2.2 C'.2.2.2.2 (wW T.2.2.1 - wW C.2.2.2.1) (by rw [eT]; omega) (by omega) (by omega)
  rw [eT] at c1 c2
  obtain ⟨d1, d2⟩ := finD_S (G := G) (p := p) (S := S) (t := T) (t' := trs G rc p S 2 C.1 C.2.1 C.2.2.1 C'.2.2.2.1 C'.2.2.2.2) (c := wW ω + c - wW T.2.2.1) R W c1 c2 (by omega) (by omega) (by omega)
  exact ⟨d1, by omega⟩
theorem DS_S (R : RS' rc) (W : RW rc) (e : wW (DS G rc p s ω).2.1 = wW ω + c) (h1 : wW ω + c ≤ 4000) (h2 : wW ω' + c ≤ 4000) : (DS G rc p s ω').1 = (DS G rc p s ω).1 ∧ wW (DS G rc p s ω').2.1 = wW ω' + c := by
  have e0 := wl_w (p := p) (s := s) (al := (fo G p s).2.2) (ω := ω)
  have e0' := wl_w (p := p) (s := s) (al := (fo G p s).2.2) (ω := ω')
  by_cases k4 : G.kd p = 4
  · rw [DS_4 k4] at e ⊢
    rw [DS_4 k4]
    dsimp only at e ⊢
    have w1 := W (p + 1) (G.E p) (fo G p s).1 (wl p s (fo G p s).2.2 ω)
    obtain ⟨q1, q2⟩ := R (p + 1) (G.E p) (fo G p s).1 (wl p s (fo G p s).2.2 ω) (wl p s (fo G p s).2.2 ω') (c - wi s) (by omega) (by omega) (by omega)
    rw [q1]
    exact ⟨rfl, by omega⟩
  · by_cases k5 : G.kd p = 5
    · rw [DS_5 k5] at e ⊢
      rw [DS_5 k5]
      dsimp only at e ⊢
      have w1 := W (p + 1) (G.M p) (fo G p s).1 (wl p s (fo G p s).2.2 ω)
      generalize eQ : rc (p + 1) (G.M p) (fo G p s).1 (wl p s (fo G p s).2.2 ω) = Q at *
      have w2 := W (G.M p) (G.E p) (fo G p s).2.1 Q.2.1
      obtain ⟨q1, q2⟩ := R (p + 1) (G.M p) (fo G p s).1 (wl p s (fo G p s).2.2 ω) (wl p s (fo G p s).2.2 ω') (wW Q.2.1 - wW ω - wi s) (by rw [eQ]; omega) (by omega) (by omega)
      rw [eQ] at q1
      generalize eQ' : rc (p + 1) (G.M p) (fo G p s).1 (wl p s (fo G p s).2.2 ω') = Q' at *
      obtain ⟨q3, q4⟩ := R (G.M p) (G.E p) (fo G p s).2.1 Q.2.1 Q'.2.1 (wW ω + c - wW Q.2.1) (by omega) (by omega) (by omega)
      rw [q1, q3]
      exact ⟨rfl, by omega⟩
    · by_cases k6 : G.kd p = 6
      · cases s with
        | none =>
          rw [DS_6n k6] at e ⊢
          rw [DS_6n k6]
          dsimp only at e ⊢
          obtain ⟨q1, q2, q3⟩ := rnd_S (G := G) (p := p) (S := none) (h := none) (ω := ω) (ω' := ω') (c := c) R W e h1 h2
          exact ⟨rfl, q3⟩
        | some A =>
          rw [DS_6s k6] at e ⊢
          rw [DS_6s k6]
          exact lop_S R W e h1 h2
      · rw [DS_x k4 k5 k6] at e ⊢
        rw [DS_x k4 k5 k6]
        dsimp only at e ⊢
        exact ⟨rfl, by omega⟩
end SHi
theorem DB_S (G : pgm) : ∀ f, RS' (DB G f) := by
  intro f
  induction f with
  | zero =>
    intro p e s ω ω' c h0 h1 h2
    have h0' : wW ω = wW ω + c := h0
    exact ⟨rfl, by show wW ω' = _; omega⟩
  | succ f ih =>
    intro p e s ω ω' c h0 h1 h2
    by_cases hp : p < e
    · rw [DB_s hp (by omega)] at h0 ⊢
      rw [DB_s hp (by omega)]
      dsimp only at h0 ⊢
      have w1 : wW ω + wi s ≤ wW (DS G (DB G f) p s ω).2.1 := DS_w (DB_w G f)
      have w2 := DB_w G f (G.E p) e (DS G (DB G f) p s ω).1 (DS G (DB G f) p s ω).2.1
      obtain ⟨q1, q2⟩ := DS_S (G := G) (p := p) (s := s) (ω := ω) (ω' := ω') (c := wW (DS G (DB G f) p s ω).2.1 - wW ω) ih (DB_w G f) (by omega) (by omega) (by omega)
      rw [q1]
      obtain ⟨q3, q4⟩ := ih (G.E p) e (DS G (DB G f) p s ω).1 (DS G (DB G f) p s ω).2.1 (DS G (DB G f) p s ω').2.1 (wW ω + c - wW (DS G (DB G f) p s ω).2.1) (by omega) (by omega) (by omega)
      exact ⟨q3, by omega⟩
    · have e0 : ∀ ω, DB G (f + 1) p e s ω = (s, ω, 0) := fun ω => by unfold DB; rw [if_neg (fun z => hp z.1)]
      rw [e0] at h0 ⊢
      rw [e0]
      dsimp only at h0 ⊢
      exact ⟨rfl, by omega⟩
