set_option maxRecDepth 100000
/-! THE ANALYSIS, pure: over any step fx of a point, any layout -/
abbrev wd : Type := (Nat → Option ab) × (Nat → Int32) × Nat
def wK (ω : wd) : Nat → Option ab := ω.1
def wA (ω : wd) : Nat → Int32 := ω.2.1
def wW (ω : wd) : Nat := ω.2.2
def wi : Option ab → Nat
  | none => 0
  | some _ => 1
/-- a look at p -/
def wl (p : Nat) (s : Option ab) (al : Int32) (ω : wd) : wd := (fun q => if q = p then s else wK ω q, fun q => if q = p then al else wA ω q, wW ω + wi s)
/-- nothing is known from p to e -/
def wc (p e : Nat) (ω : wd) : wd := (fun q => if p ≤ q ∧ q < e then none else wK ω q, fun q => if p ≤ q ∧ q < e then 0 else wA ω q, wW ω)
def o_keep (n a : Nat) : Option ab → Option ab
  | none => none
  | some A => some (a_keep n a A)
def o_wid : Option ab → Option ab → Option ab
  | some A, some B => some (a_wid A B)
  | x, _ => x
abbrev fx3 : Type := Option ab × Option ab × Int32
/-- a layout: kinds (4 call, 5 if, 6 while, else a simple one), where the first BLOCK ends, where all of it ends, slots of numbers, of arrays, how many spare Knowns its step needs, rooms of arrays; the step -/
abbrev pgm : Type := (Nat → Nat) × (Nat → Nat) × (Nat → Nat) × (Nat → Nat) × (Nat → Nat) × (Nat → Nat) × (Nat → Nat → Nat) × (Nat → ab → fx3)
def pgm.kd (G : pgm) : Nat → Nat := G.1
def pgm.M (G : pgm) : Nat → Nat := G.2.1
def pgm.E (G : pgm) : Nat → Nat := G.2.2.1
def pgm.n (G : pgm) : Nat → Nat := G.2.2.2.1
def pgm.a (G : pgm) : Nat → Nat := G.2.2.2.2.1
def pgm.sp (G : pgm) : Nat → Nat := G.2.2.2.2.2.1
def pgm.rm (G : pgm) : Nat → Nat → Nat := G.2.2.2.2.2.2.1
def pgm.fx (G : pgm) : Nat → ab → fx3 := G.2.2.2.2.2.2.2
def fo (G : pgm) (p : Nat) : Option ab → fx3
  | none => (none, none, 0)
  | some A => G.fx p A
/-- what is known behind, the world, how many spares at most -/
abbrev rs3 : Type := Option ab × wd × Nat
abbrev rc3 : Type := Nat → Nat → Option ab → wd → rs3
/-- a round of a while: n, behind, world, spares -/
abbrev rn4 : Type := Option ab × Option ab × wd × Nat
def rnd (G : pgm) (rc : rc3) (p : Nat) (S h : Option ab) (ω : wd) : rn4 :=
  (o_join S (o_keep (G.n p) (G.a p) (rc (p + 1) (G.E p) (fo G p h).1 (wl p h (fo G p h).2.2 ω)).1), (fo G p h).2.1, (rc (p + 1) (G.E p) (fo G p h).1 (wl p h (fo G p h).2.2 ω)).2.1, 1 + max (G.sp p) (rc (p + 1) (G.E p) (fo G p h).1 (wl p h (fo G p h).2.2 ω)).2.2)
/-- heads climb: head, n, behind, world, spares -/
abbrev cl5 : Type := Option ab × Option ab × Option ab × wd × Nat
noncomputable def clm (G : pgm) (rc : rc3) (p : Nat) (S : Option ab) : Nat → Option ab → Option ab → Option ab → Option ab → wd → Nat → Nat → cl5
  | 0, h, _, n, be, ω, mx, _ => (h, n, be, ω, mx)
  | g + 1, h, told, n, be, ω, mx, r =>
    @ite _ (o_le n told ∨ 4000 < wW ω) (Classical.propDecidable _) (h, n, be, ω, mx)
      ((fun h' told' => (fun q : rn4 => clm G rc p S g h' told' q.1 q.2.1 q.2.2.1 (max mx (4 + q.2.2.2)) (r + 1)) (rnd G rc p S h' ω))
        (if r ≤ 2 then o_join h n else o_cl (o_wid told n)) (if r ≤ 2 then o_join h n else o_wid told n))
noncomputable def trs (G : pgm) (rc : rc3) (p : Nat) (S : Option ab) : Nat → Option ab → Option ab → Option ab → wd → Nat → Option ab × Option ab × wd × Nat
  | 0, h, _, be, ω, mx => (h, be, ω, mx)
  | g + 1, h, n, be, ω, mx =>
    @ite _ ((o_le n h ∧ o_le h n) ∨ 4000 < wW ω) (Classical.propDecidable _) (h, be, ω, mx)
      ((fun q : rn4 => @ite _ (o_le q.1 n) (Classical.propDecidable _) (trs G rc p S g n q.1 q.2.1 q.2.2.1 (max mx (6 + q.2.2.2))) (h, q.2.1, q.2.2.1, max mx (6 + q.2.2.2))) (rnd G rc p S n ω))
noncomputable def lop (G : pgm) (rc : rc3) (p : Nat) (S : Option ab) (ω : wd) : rs3 :=
  (fun q0 : rn4 => (fun c : cl5 => (fun t : Option ab × Option ab × wd × Nat => if 4000 < wW t.2.2.1 then (t.2.1, t.2.2.1, t.2.2.2) else (fun q : rn4 => (q.2.1, q.2.2.1, max t.2.2.2 (6 + q.2.2.2))) (rnd G rc p S t.1 t.2.2.1)) (trs G rc p S 2 c.1 c.2.1 c.2.2.1 c.2.2.2.1 c.2.2.2.2)) (clm G rc p S 4001 S S q0.1 q0.2.1 q0.2.2.1 (4 + q0.2.2.2) 1)) (rnd G rc p S S ω)
/-- a statement -/
noncomputable def DS (G : pgm) (rc : rc3) (p : Nat) (s : Option ab) (ω : wd) : rs3 :=
  if G.kd p = 4 then (fun q : rs3 => (o_keep (G.n p) (G.a p) q.1, q.2.1, 1 + q.2.2)) (rc (p + 1) (G.E p) (fo G p s).1 (wl p s (fo G p s).2.2 ω))
  else if G.kd p = 5 then (fun q1 : rs3 => (fun q2 : rs3 => (o_join (o_keep (G.n p) (G.a p) q1.1) (o_keep (G.n p) (G.a p) q2.1), q2.2.1, 2 + max (G.sp p) (max q1.2.2 q2.2.2))) (rc (G.M p) (G.E p) (fo G p s).2.1 q1.2.1)) (rc (p + 1) (G.M p) (fo G p s).1 (wl p s (fo G p s).2.2 ω))
  else if G.kd p = 6 then (match s with
    | none => (none, (rnd G rc p none none ω).2.2.1, 4 + (rnd G rc p none none ω).2.2.2)
    | some A => lop G rc p (some A) ω)
  else ((fo G p s).1, wl p s (fo G p s).2.2 ω, G.sp p)
/-- a row of statements, from p to e -/
noncomputable def DB (G : pgm) : Nat → rc3
  | 0, _, _, s, ω => (s, ω, 0)
  | f + 1, p, e, s, ω => if p < e ∧ wW ω ≤ 4000 then (fun q : rs3 => (fun q' : rs3 => (q'.1, q'.2.1, max q.2.2 q'.2.2)) (DB G f (G.E p) e q.1 q.2.1)) (DS G (DB G f) p s ω) else (s, ω, 0)
/-- a state of n numbers, of a arrays with their rooms -/
def shp (n a : Nat) (r : Nat → Nat) (s : Option ab) : Prop := ∀ A, s = some A → ab_T A ∧ A.n = n ∧ A.a = a ∧ ∀ x, x < a → A.rm x = r x
/-- a layout is in order from p to e, with n numbers and a arrays before p -/
def WB (G : pgm) : Nat → Nat → Nat → Nat → Nat → (Nat → Nat) → Prop
  | 0, p, e, _, _, _ => p = e
  | f + 1, p, e, n, a, r => p = e ∨ (p < e ∧ G.n p = n ∧ G.a p = a ∧ (∀ x, x < a → r x = G.rm p x) ∧ p < G.E p ∧ G.E p ≤ e ∧
    (if G.kd p = 4 then ∃ n', n ≤ n' ∧ (∀ A, shp n a r (some A) → shp n' a r (G.fx p A).1) ∧ WB G f (p + 1) (G.E p) n' a r ∧ WB G f (G.E p) e n a r
    else if G.kd p = 5 then p < G.M p ∧ G.M p ≤ G.E p ∧ (∀ A, shp n a r (some A) → shp n a r (G.fx p A).1 ∧ shp n a r (G.fx p A).2.1) ∧ WB G f (p + 1) (G.M p) n a r ∧ WB G f (G.M p) (G.E p) n a r ∧ WB G f (G.E p) e n a r
    else if G.kd p = 6 then (∀ A, shp n a r (some A) → shp n a r (G.fx p A).1 ∧ shp n a r (G.fx p A).2.1) ∧ WB G f (p + 1) (G.E p) n a r ∧ WB G f (G.E p) e n a r
    else G.E p = p + 1 ∧ ∃ n' a' r', n ≤ n' ∧ a ≤ a' ∧ (∀ x, x < a → r' x = r x) ∧ (∀ A, shp n a r (some A) → shp n' a' r' (G.fx p A).1) ∧ WB G f (G.E p) e n' a' r'))
/-- at least of that shape -/
def shg (n a : Nat) (r : Nat → Nat) (s : Option ab) : Prop := ∃ n' a' r', n ≤ n' ∧ a ≤ a' ∧ (∀ x, x < a → r' x = r x) ∧ shp n' a' r' s
section SHs
variable {n a n' a' : Nat} {r r' : Nat → Nat} {s t : Option ab}
theorem shp_g (h : shp n a r s) : shg n a r s := ⟨n, a, r, Nat.le_refl _, Nat.le_refl _, fun _ _ => rfl, h⟩
theorem shp_n : shp n a r none := fun A e => by cases e
theorem shg_t (h1 : n ≤ n') (h2 : a ≤ a') (h3 : ∀ x, x < a → r' x = r x) (h : shg n' a' r' s) : shg n a r s := by
  obtain ⟨n2, a2, r2, q1, q2, q3, q4⟩ := h
  exact ⟨n2, a2, r2, by omega, by omega, fun x hx => (q3 x (by omega)).trans (h3 x hx), q4⟩
theorem keep_shp (h : shg n a r s) : shp n a r (o_keep n a s) := by
  obtain ⟨n', a', r', q1, q2, q3, q4⟩ := h
  intro A e
  cases s with
  | none => cases e
  | some B =>
    obtain ⟨T, e1, e2, e3⟩ := q4 B rfl
    have e' : a_keep n a B = A := by injection e
    rw [← e']
    exact ⟨T_keep T (by omega) (by omega), rfl, rfl, fun x hx => (e3 x (by omega)).trans (q3 x hx)⟩
theorem keep_id (h : shp n a r s) : o_keep n a s = s := by
  cases s with
  | none => rfl
  | some B =>
    obtain ⟨T, e1, e2, e3⟩ := h B rfl
    show some (a_keep n a B) = some B
    rw [← e1, ← e2]; rfl
theorem join_shp (h : shp n a r s) (k : shp n a r t) : shp n a r (o_join s t) := by
  intro A e
  cases t with
  | none => exact h A e
  | some B =>
    cases s with
    | none => exact k A e
    | some D =>
      obtain ⟨T, e1, e2, e3⟩ := h D rfl
      obtain ⟨U, g1, g2, g3⟩ := k B rfl
      have e' : a_join D B = A := by injection e
      rw [← e']
      exact ⟨T_join T U (by omega) (by omega), e1, e2, e3⟩
theorem shp_T {A : ab} (h : shp n a r (some A)) : ab_T A := (h A rfl).1
end SHs
