set_option maxRecDepth 100000
/-! what the analysis finds doesn't depend on what was told before -/
def wO (p e : Nat) (ω ω' : wd) : Prop := ∀ q, ¬ (p ≤ q ∧ q < e) → wK ω' q = wK ω q ∧ wA ω' q = wA ω q
def wE (p e : Nat) (ω ω' : wd) : Prop := ∀ q, p ≤ q → q < e → wK ω q = wK ω' q ∧ wA ω q = wA ω' q
section OUs
variable {G : pgm} {rc : rc3} {f p : Nat} {S : Option ab}
theorem wO_id {p e : Nat} {ω : wd} : wO p e ω ω := fun _ _ => ⟨rfl, rfl⟩
theorem wO_t {p e : Nat} {ω ω1 ω2 : wd} (x : wO p e ω ω1) (y : wO p e ω1 ω2) : wO p e ω ω2 := fun q hq => ⟨(y q hq).1.trans (x q hq).1, (y q hq).2.trans (x q hq).2⟩
theorem wO_w {p e p' e' : Nat} {ω ω1 : wd} (x : wO p' e' ω ω1) (h1 : p ≤ p') (h2 : e' ≤ e) : wO p e ω ω1 := fun q hq => x q (by omega)
theorem wO_l {p e : Nat} {s : Option ab} {al : Int32} {ω : wd} (h : p < e) : wO p e ω (wl p s al ω) := fun q hq => by
  rw [wl_K, wl_A, if_neg (by omega), if_neg (by omega)]
  exact ⟨rfl, rfl⟩
def RO (G : pgm) (f : Nat) (rc : rc3) : Prop := ∀ p e n a r s ω, WB G f p e n a r → wO p e ω (rc p e s ω).2.1
theorem rnd_o {n a : Nat} {r : Nat → Nat} (R : RO G f rc) (hE : p < G.E p) (w : WB G f (p + 1) (G.E p) n a r) {h : Option ab} {ω : wd} : wO p (G.E p) ω (rnd G rc p S h ω).2.2.1 := wO_t (wO_l hE) (wO_w (R (p + 1) (G.E p) n a r _ _ w) (by omega) (Nat.le_refl _))
theorem clm_o {n a : Nat} {r : Nat → Nat} (R : RO G f rc) (hE : p < G.E p) (w : WB G f (p + 1) (G.E p) n a r) : ∀ g h told n1 be ω mx k, wO p (G.E p) ω (clm G rc p S g h told n1 be ω mx k).2.2.2.1 := by
  intro g
  induction g with
  | zero => exact fun h told n1 be ω mx k => wO_id
  | succ g ih =>
    intro h told n1 be ω mx k
    rw [clm_1]
    split
    · exact wO_id
    · exact wO_t (rnd_o R hE w) (ih _ _ _ _ _ _ _)
theorem trs_o {n a : Nat} {r : Nat → Nat} (R : RO G f rc) (hE : p < G.E p) (w : WB G f (p + 1) (G.E p) n a r) : ∀ g h n1 be ω mx, wO p (G.E p) ω (trs G rc p S g h n1 be ω mx).2.2.1 := by
  intro g
  induction g with
  | zero => exact fun h n1 be ω mx => wO_id
  | succ g ih =>
    intro h n1 be ω mx
    rw [trs_1]
    split
    · exact wO_id
    · split
      · exact wO_t (rnd_o R hE w) (ih _ _ _ _ _)
      · exact rnd_o (S := S) R hE w
theorem finD_o {n a : Nat} {r : Nat → Nat} (R : RO G f rc) (hE : p < G.E p) (w : WB G f (p + 1) (G.E p) n a r) {t : Option ab × Option ab × wd × Nat} : wO p (G.E p) t.2.2.1 (finD G rc p S t).2.1 := by
  unfold finD
  split
  · exact wO_id
  · exact rnd_o (S := S) R hE w
theorem lop_o {n a : Nat} {r : Nat → Nat} (R : RO G f rc) (hE : p < G.E p) (w : WB G f (p + 1) (G.E p) n a r) {ω : wd} : wO p (G.E p) ω (lop G rc p S ω).2.1 := by
  rw [lop_D]
  unfold clmD trsD
  exact wO_t (rnd_o (S := S) (h := S) R hE w) (wO_t (clm_o R hE w _ _ _ _ _ _ _ _) (wO_t (trs_o R hE w _ _ _ _ _ _) (finD_o R hE w)))
end OUs
theorem DB_o (G : pgm) : ∀ f, RO G f (DB G f) := by
  intro f
  induction f with
  | zero => exact fun p e n a r s ω w => wO_id
  | succ f ih =>
    intro p e n a r s ω w
    rcases w with w | ⟨w1, e1, e2, e3, w2, w3, wk⟩
    · subst w
      have e0 : DB G (f + 1) p p s ω = (s, ω, 0) := by unfold DB; rw [if_neg (by omega)]
      rw [e0]; exact wO_id
    · by_cases c : wW ω ≤ 4000
      · have e0 : (DB G (f + 1) p e s ω).2.1 = (DB G f (G.E p) e (DS G (DB G f) p s ω).1 (DS G (DB G f) p s ω).2.1).2.1 := by
          conv => lhs; unfold DB
          rw [if_pos ⟨w1, c⟩]
        rw [e0]
        have key : wO p (G.E p) ω (DS G (DB G f) p s ω).2.1 ∧ ∃ n' a' r', WB G f (G.E p) e n' a' r' := by
          unfold DS
          by_cases k4 : G.kd p = 4
          · rw [if_pos k4] at wk ⊢
            obtain ⟨n', q1, q2, q3, q4⟩ := wk
            exact ⟨wO_t (wO_l w2) (wO_w (ih (p + 1) (G.E p) n' a r _ _ q3) (by omega) (Nat.le_refl _)), n, a, r, q4⟩
          · rw [if_neg k4] at wk ⊢
            by_cases k5 : G.kd p = 5
            · rw [if_pos k5] at wk ⊢
              obtain ⟨m1, m2, q2, q3, q4, q5⟩ := wk
              exact ⟨wO_t (wO_l w2) (wO_t (wO_w (ih (p + 1) (G.M p) n a r _ _ q3) (by omega) m2) (wO_w (ih (G.M p) (G.E p) n a r _ _ q4) (by omega) (Nat.le_refl _))), n, a, r, q5⟩
            · rw [if_neg k5] at wk ⊢
              by_cases k6 : G.kd p = 6
              · rw [if_pos k6] at wk ⊢
                obtain ⟨q2, q3, q4⟩ := wk
                refine ⟨?_, n, a, r, q4⟩
                cases s with
                | none => exact rnd_o (S := none) (h := none) ih w2 q3
                | some A => exact lop_o ih w2 q3
              · rw [if_neg k6] at wk ⊢
                obtain ⟨ee, n', a', r', q1, q2, q3, q4, q5⟩ := wk
                exact ⟨wO_l w2, n', a', r', q5⟩
        obtain ⟨k1, n', a', r', k2⟩ := key
        exact wO_t (wO_w k1 (Nat.le_refl _) w3) (wO_w (ih (G.E p) e n' a' r' _ _ k2) (by omega) (Nat.le_refl _))
      · have e0 : DB G (f + 1) p e s ω = (s, ω, 0) := by unfold DB; rw [if_neg (fun z => c z.2)]
        rw [e0]; exact wO_id
/-! the same from the same work -/
def e3 (p e : Nat) (x y : rs3) : Prop := x.1 = y.1 ∧ x.2.2 = y.2.2 ∧ wW x.2.1 = wW y.2.1 ∧ (wW x.2.1 ≤ 4000 → wE p e x.2.1 y.2.1)
def RI (G : pgm) (f : Nat) (rc : rc3) : Prop := ∀ p e n a r s ω ω', WB G f p e n a r → wW ω = wW ω' → e3 p e (rc p e s ω) (rc p e s ω')
section EQs
variable {G : pgm} {rc : rc3} {f p : Nat} {S : Option ab}
theorem wE_t {p m e : Nat} {ω ω' ω1 ω1' : wd} (h1 : wE p m ω ω') (o : wO m e ω ω1) (o' : wO m e ω' ω1') (h2 : wE m e ω1 ω1') : wE p e ω1 ω1' := fun q q1 q2 => by
  by_cases c : q < m
  · obtain ⟨a1, a2⟩ := o q (by omega)
    obtain ⟨b1, b2⟩ := o' q (by omega)
    rw [a1, a2, b1, b2]; exact h1 q q1 c
  · exact h2 q (by omega) q2
theorem wE_l {p : Nat} {s : Option ab} {al : Int32} {ω ω' : wd} : wE p (p + 1) (wl p s al ω) (wl p s al ω') := fun q q1 q2 => by
  have e : q = p := by omega
  rw [wl_K, wl_K, wl_A, wl_A, if_pos e, if_pos e, if_pos e, if_pos e]
  exact ⟨rfl, rfl⟩
def e4 (p e : Nat) (x y : rn4) : Prop := x.1 = y.1 ∧ x.2.1 = y.2.1 ∧ x.2.2.2 = y.2.2.2 ∧ wW x.2.2.1 = wW y.2.2.1 ∧ (wW x.2.2.1 ≤ 4000 → wE p e x.2.2.1 y.2.2.1)
theorem rnd_i {n a : Nat} {r : Nat → Nat} (R : RI G f rc) (O : RO G f rc) (hE : p < G.E p) (w : WB G f (p + 1) (G.E p) n a r) {h : Option ab} {ω ω' : wd} (hw : wW ω = wW ω') : e4 p (G.E p) (rnd G rc p S h ω) (rnd G rc p S h ω') := by
  have hw' : wW (wl p h (fo G p h).2.2 ω) = wW (wl p h (fo G p h).2.2 ω') := by show wW ω + wi h = wW ω' + wi h; rw [hw]
  obtain ⟨q1, q2, q3, q4⟩ := R (p + 1) (G.E p) n a r (fo G p h).1 _ _ w hw'
  refine ⟨?_, rfl, ?_, q3, fun c => ?_⟩
  · show o_join S (o_keep (G.n p) (G.a p) _) = o_join S (o_keep (G.n p) (G.a p) _)
    rw [q1]
  · show 1 + max (G.sp p) _ = 1 + max (G.sp p) _
    rw [q2]
  · exact wE_t wE_l (O (p + 1) (G.E p) n a r _ _ w) (O (p + 1) (G.E p) n a r _ _ w) (q4 c)
def e5 (p e : Nat) (x y : cl5) : Prop := x.1 = y.1 ∧ x.2.1 = y.2.1 ∧ x.2.2.1 = y.2.2.1 ∧ x.2.2.2.2 = y.2.2.2.2 ∧ wW x.2.2.2.1 = wW y.2.2.2.1 ∧ (wW x.2.2.2.1 ≤ 4000 → wE p e x.2.2.2.1 y.2.2.2.1)
theorem clm_i {n a : Nat} {r : Nat → Nat} (R : RI G f rc) (O : RO G f rc) (hE : p < G.E p) (w : WB G f (p + 1) (G.E p) n a r) : ∀ g h told n1 be ω ω' mx k, wW ω = wW ω' → (wW ω ≤ 4000 → wE p (G.E p) ω ω') → e5 p (G.E p) (clm G rc p S g h told n1 be ω mx k) (clm G rc p S g h told n1 be ω' mx k) := by
  intro g
  induction g with
  | zero => exact fun h told n1 be ω ω' mx k hw he => ⟨rfl, rfl, rfl, rfl, hw, he⟩
  | succ g ih =>
    intro h told n1 be ω ω' mx k hw he
    rw [clm_1, clm_1]
    by_cases c : o_le n1 told ∨ 4000 < wW ω
    · have c' : o_le n1 told ∨ 4000 < wW ω' := by rw [← hw]; exact c
      rw [if_pos c, if_pos c']
      exact ⟨rfl, rfl, rfl, rfl, hw, he⟩
    · have c' : ¬ (o_le n1 told ∨ 4000 < wW ω') := by rw [← hw]; exact c
      rw [if_neg c, if_neg c']
      obtain ⟨q1, q2, q3, q4, q5⟩ := rnd_i (S := S) (h := if k ≤ 2 then o_join h n1 else o_cl (o_wid told n1)) R O hE w hw
      rw [q1, q2, q3]
      exact ih _ _ _ _ _ _ _ _ q4 q5
def e6 (p e : Nat) (x y : Option ab × Option ab × wd × Nat) : Prop := x.1 = y.1 ∧ x.2.1 = y.2.1 ∧ x.2.2.2 = y.2.2.2 ∧ wW x.2.2.1 = wW y.2.2.1 ∧ (wW x.2.2.1 ≤ 4000 → wE p e x.2.2.1 y.2.2.1)
theorem trs_i {n a : Nat} {r : Nat → Nat} (R : RI G f rc) (O : RO G f rc) (hE : p < G.E p) (w : WB G f (p + 1) (G.E p) n a r) : ∀ g h n1 be ω ω' mx, wW ω = wW ω' → (wW ω ≤ 4000 → wE p (G.E p) ω ω') → e6 p (G.E p) (trs G rc p S g h n1 be ω mx) (trs G rc p S g h n1 be ω' mx) := by
  intro g
  induction g with
  | zero => exact fun h n1 be ω ω' mx hw he => ⟨rfl, rfl, rfl, hw, he⟩
  | succ g ih =>
    intro h n1 be ω ω' mx hw he
    rw [trs_1, trs_1]
    by_cases c : (o_le n1 h ∧ o_le h n1) ∨ 4000 < wW ω
    · have c' : (o_le n1 h ∧ o_le h n1) ∨ 4000 < wW ω' := by rw [← hw]; exact c
      rw [if_pos c, if_pos c']
      exact ⟨rfl, rfl, rfl, hw, he⟩
    · have c' : ¬ ((o_le n1 h ∧ o_le h n1) ∨ 4000 < wW ω') := by rw [← hw]; exact c
      rw [if_neg c, if_neg c']
      obtain ⟨q1, q2, q3, q4, q5⟩ := rnd_i (S := S) (h := n1) R O hE w hw
      rw [← q1, ← q2, ← q3]
      by_cases c2 : o_le (rnd G rc p S n1 ω).1 n1
      · rw [if_pos c2, if_pos c2]
        exact ih _ _ _ _ _ _ q4 q5
      · rw [if_neg c2, if_neg c2]
        exact ⟨rfl, rfl, rfl, q4, q5⟩
theorem finD_i {n a : Nat} {r : Nat → Nat} (R : RI G f rc) (O : RO G f rc) (hE : p < G.E p) (w : WB G f (p + 1) (G.E p) n a r) {t t' : Option ab × Option ab × wd × Nat} (h : e6 p (G.E p) t t') : e3 p (G.E p) (finD G rc p S t) (finD G rc p S t') := by
  obtain ⟨h1, h2, h3, h4, h5⟩ := h
  unfold finD
  by_cases c : 4000 < wW t.2.2.1
  · rw [if_pos c, if_pos (by rw [← h4]; exact c)]
    exact ⟨h2, h3, h4, h5⟩
  · rw [if_neg c, if_neg (by rw [← h4]; exact c)]
    obtain ⟨q1, q2, q3, q4, q5⟩ := rnd_i (S := S) (h := t.1) R O hE w h4
    rw [← h1]
    refine ⟨q2, ?_, q4, q5⟩
    show max t.2.2.2 (6 + _) = max t'.2.2.2 (6 + _)
    rw [h3, q3]
theorem lop_i {n a : Nat} {r : Nat → Nat} (R : RI G f rc) (O : RO G f rc) (hE : p < G.E p) (w : WB G f (p + 1) (G.E p) n a r) {ω ω' : wd} (hw : wW ω = wW ω') : e3 p (G.E p) (lop G rc p S ω) (lop G rc p S ω') := by
  rw [lop_D, lop_D]
  obtain ⟨q1, q2, q3, q4, q5⟩ := rnd_i (S := S) (h := S) R O hE w hw
  rw [← q1, ← q2, ← q3]
  obtain ⟨c1, c2, c3, c4, c5, c6⟩ := clm_i (S := S) R O hE w 4001 S S (rnd G rc p S S ω).1 (rnd G rc p S S ω).2.1 (rnd G rc p S S ω).2.2.1 (rnd G rc p S S ω').2.2.1 (4 + (rnd G rc p S S ω).2.2.2) 1 q4 q5
  unfold clmD
  rw [← c1, ← c2, ← c3, ← c4]
  unfold trsD
  exact finD_i R O hE w (trs_i (S := S) R O hE w 2 _ _ _ _ _ _ c5 c6)
end EQs
theorem DB_i (G : pgm) : ∀ f, RI G f (DB G f) := by
  intro f
  induction f with
  | zero => exact fun p e n a r s ω ω' w hw => ⟨rfl, rfl, hw, fun _ q q1 q2 => by have e0 : p = e := w; omega⟩
  | succ f ih =>
    intro p e n a r s ω ω' w hw
    have O := DB_o G f
    rcases w with w | ⟨w1, e1, e2, e3', w2, w3, wk⟩
    · subst w
      have e0 : ∀ ω, DB G (f + 1) p p s ω = (s, ω, 0) := fun ω => by unfold DB; rw [if_neg (by omega)]
      rw [e0, e0]; exact ⟨rfl, rfl, hw, fun _ q q1 q2 => by omega⟩
    · by_cases c : wW ω ≤ 4000
      · have e0 : ∀ ω, wW ω ≤ 4000 → DB G (f + 1) p e s ω = ((DB G f (G.E p) e (DS G (DB G f) p s ω).1 (DS G (DB G f) p s ω).2.1).1, (DB G f (G.E p) e (DS G (DB G f) p s ω).1 (DS G (DB G f) p s ω).2.1).2.1, max (DS G (DB G f) p s ω).2.2 (DB G f (G.E p) e (DS G (DB G f) p s ω).1 (DS G (DB G f) p s ω).2.1).2.2) := fun ω c => by
          conv => lhs; unfold DB
          rw [if_pos ⟨w1, c⟩]
        rw [e0 ω c, e0 ω' (by rw [← hw]; exact c)]
        have hwl : ∀ (s : Option ab) (al : Int32), wW (wl p s al ω) = wW (wl p s al ω') := fun s al => by show wW ω + wi s = wW ω' + wi s; rw [hw]
        have key : e3 p (G.E p) (DS G (DB G f) p s ω) (DS G (DB G f) p s ω') ∧ ∃ n' a' r', WB G f (G.E p) e n' a' r' := by
          unfold DS
          by_cases k4 : G.kd p = 4
          · rw [if_pos k4] at wk
            rw [if_pos k4, if_pos k4]
            obtain ⟨n', q1, q2, q3, q4⟩ := wk
            obtain ⟨u1, u2, u3, u4⟩ := ih (p + 1) (G.E p) n' a r (fo G p s).1 _ _ q3 (hwl s (fo G p s).2.2)
            refine ⟨⟨?_, ?_, u3, fun c => wE_t wE_l (O (p + 1) (G.E p) n' a r _ _ q3) (O (p + 1) (G.E p) n' a r _ _ q3) (u4 c)⟩, n, a, r, q4⟩
            · show o_keep (G.n p) (G.a p) _ = o_keep (G.n p) (G.a p) _
              rw [u1]
            · show 1 + _ = 1 + _
              rw [u2]
          · rw [if_neg k4] at wk
            rw [if_neg k4, if_neg k4]
            by_cases k5 : G.kd p = 5
            · rw [if_pos k5] at wk
              rw [if_pos k5, if_pos k5]
              obtain ⟨m1, m2, q2, q3, q4, q5⟩ := wk
              obtain ⟨u1, u2, u3, u4⟩ := ih (p + 1) (G.M p) n a r (fo G p s).1 _ _ q3 (hwl s (fo G p s).2.2)
              obtain ⟨v1, v2, v3, v4⟩ := ih (G.M p) (G.E p) n a r (fo G p s).2.1 _ _ q4 u3
              have wm := DB_w G f (G.M p) (G.E p) (fo G p s).2.1 (DB G f (p + 1) (G.M p) (fo G p s).1 (wl p s (fo G p s).2.2 ω)).2.1
              refine ⟨⟨?_, ?_, v3, fun c => ?_⟩, n, a, r, q5⟩
              · show o_join (o_keep (G.n p) (G.a p) _) (o_keep (G.n p) (G.a p) _) = o_join (o_keep (G.n p) (G.a p) _) (o_keep (G.n p) (G.a p) _)
                rw [u1, v1]
              · show 2 + max (G.sp p) (max _ _) = 2 + max (G.sp p) (max _ _)
                rw [u2, v2]
              · exact wE_t (wE_t wE_l (O (p + 1) (G.M p) n a r _ _ q3) (O (p + 1) (G.M p) n a r _ _ q3) (u4 (Nat.le_trans wm c))) (O (G.M p) (G.E p) n a r _ _ q4) (O (G.M p) (G.E p) n a r _ _ q4) (v4 c)
            · rw [if_neg k5] at wk
              rw [if_neg k5, if_neg k5]
              by_cases k6 : G.kd p = 6
              · rw [if_pos k6] at wk
                rw [if_pos k6, if_pos k6]
                obtain ⟨q2, q3, q4⟩ := wk
                refine ⟨?_, n, a, r, q4⟩
                cases s with
                | none =>
                  obtain ⟨u1, u2, u3, u4, u5⟩ := rnd_i (S := none) (h := none) ih O w2 q3 hw
                  refine ⟨rfl, ?_, u4, u5⟩
                  show 4 + _ = 4 + _
                  rw [u3]
                | some A => exact lop_i ih O w2 q3 hw
              · rw [if_neg k6] at wk
                rw [if_neg k6, if_neg k6]
                obtain ⟨ee, n', a', r', q1, q2, q3, q4, q5⟩ := wk
                refine ⟨⟨rfl, rfl, hwl s (fo G p s).2.2, fun _ => ?_⟩, n', a', r', q5⟩
                rw [ee]; exact wE_l
        obtain ⟨⟨k1, k2, k3, k4⟩, n', a', r', k5⟩ := key
        have wm := DB_w G f (G.E p) e (DS G (DB G f) p s ω).1 (DS G (DB G f) p s ω).2.1
        rw [← k1, ← k2]
        obtain ⟨u1, u2, u3, u4⟩ := ih (G.E p) e n' a' r' (DS G (DB G f) p s ω).1 _ _ k5 k3
        refine ⟨u1, ?_, u3, fun c => wE_t (k4 (Nat.le_trans wm c)) (O (G.E p) e n' a' r' _ _ k5) (O (G.E p) e n' a' r' _ _ k5) (u4 c)⟩
        show max _ _ = max _ _
        rw [u2]
      · have e0 : ∀ ω, ¬ wW ω ≤ 4000 → DB G (f + 1) p e s ω = (s, ω, 0) := fun ω c => by unfold DB; rw [if_neg (fun z => c z.2)]
        rw [e0 ω c, e0 ω' (by rw [← hw]; exact c)]
        exact ⟨rfl, rfl, hw, fun z => absurd z c⟩
