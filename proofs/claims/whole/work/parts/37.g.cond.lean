set_option maxRecDepth 100000
/-! CONDs: what is known where they hold, where they fail; the alarms -/
abbrev sr3 : Type := Option ab × Option ab × Int32
def s_sw (q : sr3) : sr3 := (q.2.1, q.1, q.2.2)
def s_al (a : Int32) (q : sr3) : sr3 := (q.1, q.2.1, a ||| q.2.2)
def s_fx (an : Bool) (q : sr3) : sr3 := if an = true then q else s_sw q
/-- mode false: the first node's; true: on and done through the row, for && (an) or || -/
noncomputable def spl (en : Int → Nat) : tr → Bool → Bool → Option ab → Option ab → sr3
  | .leaf _, _, _, on, done => (on, done, 0)
  | .branch n cs r, mo, an, on, done =>
    (fun x : sr3 => if mo = true then s_al x.2.2 (spl en r true an (if an = true then x.1 else x.2.1) (o_join done (if an = true then x.2.1 else x.1))) else x)
      (match on with
        | none => (none, none, 0)
        | some A => if tK n = 26 then s_sw (spl en cs false false (some A) none)
          else if tK n = 24 ∨ tK n = 25 then s_fx (decide (tK n = 25)) (spl en cs true (decide (tK n = 25)) (some A) none)
          else a_rel en A (tK n - 27) cs (tT cs))
/-- a COND that is in order -/
def wC (sN : Int → Prop) (en : Int → Nat) (A : ab) : tr → Bool → Prop
  | .leaf _, mo => mo = true
  | .branch n cs r, mo => (if tK n = 26 then wC sN en A cs false else if tK n = 24 ∨ tK n = 25 then wC sN en A cs true else (27 ≤ tK n ∧ tK n ≤ 32 ∧ match cs with
      | .branch m1 c1 (.branch m2 c2 r2) => wS sN en A (.branch m1 c1 (.branch m2 c2 r2)) false ∧ pz (.branch m1 c1 (.branch m2 c2 r2)) false ∧ pn (.branch m1 c1 (.branch m2 c2 r2)) false ≤ 6000 ∧ wS sN en A (.branch m2 c2 r2) false ∧ pz (.branch m2 c2 r2) false ∧ pn (.branch m2 c2 r2) false ≤ 6000
      | _ => False)) ∧ (mo = true → wC sN en A r true)
/-- how many Knowns it needs beside -/
def cn3 : tr → Nat
  | .leaf _ => 0
  | .branch n cs r => max (if tK n = 26 then cn3 cs else if tK n = 24 ∨ tK n = 25 then 3 + cn3 cs else 0) (cn3 r)
def okS (A : ab) (C : Option ab) : Prop := ∀ B, C = some B → ab_T B ∧ B.n = A.n ∧ B.a = A.a ∧ B.rm = A.rm
section SPs
variable {en : Int → Nat} {sN : Int → Prop} {A B : ab} {n : Nat} {cs r : tr} {an : Bool} {on done : Option ab}
theorem spl_N : spl en (.branch n cs r) false an none done = (none, none, 0) := rfl
theorem spl_26 (h : tK n = 26) : spl en (.branch n cs r) false an (some A) done = s_sw (spl en cs false false (some A) none) := by
  show (if tK n = 26 then s_sw (spl en cs false false (some A) none) else if tK n = 24 ∨ tK n = 25 then s_fx (decide (tK n = 25)) (spl en cs true (decide (tK n = 25)) (some A) none) else a_rel en A (tK n - 27) cs (tT cs)) = _
  rw [if_pos h]
theorem spl_25 (h : tK n = 24 ∨ tK n = 25) : spl en (.branch n cs r) false an (some A) done = s_fx (decide (tK n = 25)) (spl en cs true (decide (tK n = 25)) (some A) none) := by
  show (if tK n = 26 then s_sw (spl en cs false false (some A) none) else if tK n = 24 ∨ tK n = 25 then s_fx (decide (tK n = 25)) (spl en cs true (decide (tK n = 25)) (some A) none) else a_rel en A (tK n - 27) cs (tT cs)) = _
  rw [if_neg (by omega), if_pos h]
theorem spl_27 (h : 27 ≤ tK n) : spl en (.branch n cs r) false an (some A) done = a_rel en A (tK n - 27) cs (tT cs) := by
  show (if tK n = 26 then s_sw (spl en cs false false (some A) none) else if tK n = 24 ∨ tK n = 25 then s_fx (decide (tK n = 25)) (spl en cs true (decide (tK n = 25)) (some A) none) else a_rel en A (tK n - 27) cs (tT cs)) = _
  rw [if_neg (by omega), if_neg (by omega)]
theorem spl_L : spl en (.branch n cs r) true an on done = s_al (spl en (.branch n cs r) false an on none).2.2 (spl en r true an (if an = true then (spl en (.branch n cs r) false an on none).1 else (spl en (.branch n cs r) false an on none).2.1) (o_join done (if an = true then (spl en (.branch n cs r) false an on none).2.1 else (spl en (.branch n cs r) false an on none).1))) := rfl
theorem spl_F {an' : Bool} {d' : Option ab} : spl en (.branch n cs r) false an on done = spl en (.branch n cs r) false an' on d' := rfl
theorem wC_26 (h : tK n = 26) {mo : Bool} (w : wC sN en A (.branch n cs r) mo) : wC sN en A cs false := by
  have w' : (if tK n = 26 then _ else _) ∧ _ := w
  rw [if_pos h] at w'
  exact w'.1
theorem wC_25 (h : tK n = 24 ∨ tK n = 25) {mo : Bool} (w : wC sN en A (.branch n cs r) mo) : wC sN en A cs true := by
  have w' : (if tK n = 26 then _ else if tK n = 24 ∨ tK n = 25 then _ else _) ∧ _ := w
  rw [if_neg (by omega), if_pos h] at w'
  exact w'.1
theorem wC_27 (h : ¬ tK n = 26) (h2 : ¬ (tK n = 24 ∨ tK n = 25)) {mo : Bool} (w : wC sN en A (.branch n cs r) mo) : 27 ≤ tK n ∧ tK n ≤ 32 ∧ ∃ m1 c1 m2 c2 r2, cs = .branch m1 c1 (.branch m2 c2 r2) ∧ wS sN en A (.branch m1 c1 (.branch m2 c2 r2)) false ∧ pz (.branch m1 c1 (.branch m2 c2 r2)) false ∧ pn (.branch m1 c1 (.branch m2 c2 r2)) false ≤ 6000 ∧ wS sN en A (.branch m2 c2 r2) false ∧ pz (.branch m2 c2 r2) false ∧ pn (.branch m2 c2 r2) false ≤ 6000 := by
  rcases cs with _ | ⟨m1, c1, _ | ⟨m2, c2, r2⟩⟩
  all_goals
    have w' : (if tK n = 26 then _ else if tK n = 24 ∨ tK n = 25 then _ else _) ∧ _ := w
    rw [if_neg h, if_neg h2] at w'
  · exact absurd w'.1.2.2 (fun z => z)
  · exact absurd w'.1.2.2 (fun z => z)
  · exact ⟨w'.1.1, w'.1.2.1, m1, c1, m2, c2, r2, rfl, w'.1.2.2⟩
theorem wC_r (w : wC sN en A (.branch n cs r) true) : wC sN en A r true := w.2 rfl
theorem wC_f {mo : Bool} (w : wC sN en A (.branch n cs r) mo) : wC sN en A (.branch n cs r) false := ⟨w.1, fun z => by cases z⟩
/-- only how many slots there are matters for order -/
theorem wS_ab (h1 : B.n = A.n) (h2 : B.a = A.a) (h3 : B.rm = A.rm) : ∀ t, (wS sN en A t false → wS sN en B t false) ∧ (wS sN en A t true → wS sN en B t true) ∧ (wS sN en A (tT t) false → wS sN en B (tT t) false) ∧ (wS sN en A (tT t) true → wS sN en B (tT t) true) := by
  intro t
  induction t with
  | leaf u => exact ⟨fun w => w, fun w => w, fun w => w, fun w => w⟩
  | branch n cs r ih1 ih2 =>
    refine ⟨fun w => ?_, fun w => ⟨w.1, ih1.1 w.2.1, ih2.2.1 w.2.2⟩, ih2.1, ih2.2.1⟩
    by_cases k12 : tK n = 12
    · have := w_12 k12 w
      rcases cs with _ | ⟨_, _, _ | ⟨_, _, _⟩⟩
      all_goals
        show (if tK n = 12 then _ else _)
        rw [if_pos k12]; exact this
    · by_cases k13 : tK n = 13
      · have := w_13 k13 w
        rcases cs with _ | ⟨_, _, _ | ⟨_, _, _⟩⟩
        all_goals
          show (if tK n = 12 then _ else if tK n = 13 then _ else _)
          rw [if_neg k12, if_pos k13, h1]; exact this
      · by_cases k14 : tK n = 14
        · obtain ⟨m, cs', r', rfl, a1, a2, a3, a4, a5, a6⟩ := w_14 k14 w
          have q : wS sN en B r' false := ih1.2.2.1 a6
          rcases r' with _ | ⟨_, _, _⟩
          all_goals
            show (if tK n = 12 then _ else if tK n = 13 then _ else if tK n = 14 then _ else _)
            rw [if_neg k12, if_neg k13, if_pos k14, h2, h3]
            exact ⟨a1, a2, a3, a4, a5, q⟩
        · by_cases k15 : tK n = 15
          · have q := ih1.1 (w_15 k15 w)
            rcases cs with _ | ⟨_, _, _ | ⟨_, _, _⟩⟩
            all_goals
              show (if tK n = 12 then _ else if tK n = 13 then _ else if tK n = 14 then _ else if tK n = 15 then _ else _)
              rw [if_neg k12, if_neg k13, if_neg k14, if_pos k15]; exact q
          · by_cases k16 : tK n = 16
            · rcases w_16 k16 w with ⟨u, rfl⟩ | ⟨l, c1, g, c2, r2, rfl, q⟩
              · show (if tK n = 12 then _ else if tK n = 13 then _ else if tK n = 14 then _ else if tK n = 15 then _ else if tK n = 16 then _ else _)
                rw [if_neg k12, if_neg k13, if_neg k14, if_neg k15, if_pos k16]; trivial
              · show (if tK n = 12 then _ else if tK n = 13 then _ else if tK n = 14 then _ else if tK n = 15 then _ else if tK n = 16 then _ else _)
                rw [if_neg k12, if_neg k13, if_neg k14, if_neg k15, if_pos k16]; exact q
            · obtain ⟨m, cs', r', rfl, q1, q2⟩ := w_17 ⟨k12, k13, k14, k15, k16⟩ w
              have e1 := ih1.1 q1
              have e2 : wS sN en B r' true := ih1.2.2.2 q2
              rcases r' with _ | ⟨_, _, _⟩
              all_goals
                show (if tK n = 12 then _ else if tK n = 13 then _ else if tK n = 14 then _ else if tK n = 15 then _ else if tK n = 16 then _ else _)
                rw [if_neg k12, if_neg k13, if_neg k14, if_neg k15, if_neg k16]
                exact ⟨e1, e2⟩
theorem wC_ab (h1 : B.n = A.n) (h2 : B.a = A.a) (h3 : B.rm = A.rm) : ∀ t mo, wC sN en A t mo → wC sN en B t mo := by
  intro t
  induction t with
  | leaf u => exact fun _ w => w
  | branch n cs r ih1 ih2 =>
    intro mo w
    refine ⟨?_, fun z => ih2 true (w.2 z)⟩
    by_cases k26 : tK n = 26
    · rw [if_pos k26]; exact ih1 false (wC_26 k26 w)
    · by_cases k25 : tK n = 24 ∨ tK n = 25
      · rw [if_neg k26, if_pos k25]; exact ih1 true (wC_25 k25 w)
      · rw [if_neg k26, if_neg k25]
        obtain ⟨a1, a2, m1, c1, m2, c2, r2, rfl, b1, b2, b3, b4, b5, b6⟩ := wC_27 k26 k25 w
        exact ⟨a1, a2, (wS_ab h1 h2 h3 _).1 b1, b2, b3, (wS_ab h1 h2 h3 _).1 b4, b5, b6⟩
theorem join_ok (h1 : okS A on) (h2 : okS A done) : okS A (o_join on done) := by
  intro C hC
  cases on with
  | none =>
    have : done = some C := by
      cases done with
      | none => cases hC
      | some D => exact hC
    exact h2 C this
  | some P =>
    cases done with
    | none => exact h1 C hC
    | some D =>
      have hC : some (a_join P D) = some C := hC
      cases hC
      obtain ⟨t1, n1, a1, r1⟩ := h1 P rfl
      obtain ⟨t2, n2, a2, r2⟩ := h2 D rfl
      exact ⟨T_join t1 t2 (n1.trans n2.symm) (a1.trans a2.symm), n1, a1, r1⟩
theorem pg_w : ∀ t, (∀ k tu, wS sN en A t false → ∀ e ∈ pg t false k tu, wS sN en A e.2.2 false) ∧ (∀ k tu, wS sN en A t true → ∀ e ∈ pg t true k tu, wS sN en A e.2.2 false) ∧ (∀ k tu, wS sN en A (tT t) true → ∀ e ∈ pg (tT t) true k tu, wS sN en A e.2.2 false) := by
  intro t
  induction t with
  | leaf u => exact ⟨fun k tu w => absurd w (fun z => z), fun k tu _ e he => absurd he List.not_mem_nil, fun k tu _ e he => absurd he List.not_mem_nil⟩
  | branch n cs r ih1 ih2 =>
    refine ⟨fun k tu w e he => ?_, fun k tu w e he => ?_, ih2.2.1⟩
    · by_cases k15 : tK n = 15
      · rw [pg_15 k15] at he
        exact ih1.1 _ _ (w_15 k15 w) e he
      · by_cases k1' : tK n = 17
        · obtain ⟨m, cs', r', rfl, w1, w2⟩ := w_17 (k17 k1') w
          rw [pg_17 k1'] at he
          rcases List.mem_append.mp he with he | he
          · exact ih1.1 _ _ w1 e he
          · exact ih1.2.2 _ _ w2 e he
        · rw [pg_1 k15 k1'] at he
          rcases List.mem_singleton.mp he with rfl
          exact w
    · rw [pg_L] at he
      rcases List.mem_append.mp he with he | he
      · exact ih1.1 _ _ w.2.1 e he
      · exact ih2.2.1 _ _ w.2.2 e he
theorem LQ_MO {l : List (Nat × Bool × tr)} (hT : ab_T A) (R : LQ sN en A l) (hm : l.length ≤ 12000) : MO A (l.map (pgE en A)) := by
  have LL : (l.map (pgE en A)).length = l.length := List.length_map _
  exact ⟨hT, LQ_PB hT R hm, fun i hi fi => by
    rw [LL] at hi
    exact ((LQ_pq hT R hi).2 (of_decide_eq_true fi).1).2.1⟩
theorem rel_MO (hT : ab_T B) {t1 t2 : tr} (w1 : wS sN en B t1 false) (w2 : wS sN en B t2 false) (m1 : pn t1 false ≤ 6000) (m2 : pn t2 false ≤ 6000) (so1 : (ev en B t1 none).1 ≠ none) (so2 : (ev en B t2 none).1 ≠ none) : MO B (pt en B t1 false false ++ pt en B t2 false true) := by
  have LQ' : LQ sN en B (pg t1 false 0 false ++ pg t2 false 0 true) := fun e he => by
    rcases List.mem_append.mp he with he | he
    · exact ⟨(pg_w t1).1 0 false w1 e he, (pg_some t1).1 0 false w1 so1 e he⟩
    · exact ⟨(pg_w t2).1 0 true w2 e he, (pg_some t2).1 0 true w2 so2 e he⟩
  have O := LQ_MO hT LQ' (by rw [List.length_append, (pg_len t1).1, (pg_len t2).1]; omega)
  rw [List.map_append, ← (pg_pt t1).1 0 false w1, ← (pg_pt t2).1 0 true w2] at O
  exact O
theorem rel_ok (hT : ab_T B) {w : Nat} {t1 t2 : tr} (w1 : wS sN en B t1 false) (w2 : wS sN en B t2 false) (m1 : pn t1 false ≤ 6000) (m2 : pn t2 false ≤ 6000) : okS B (a_rel en B w t1 t2).1 ∧ okS B (a_rel en B w t1 t2).2.1 := by
  have no : okS B none := fun _ z => by cases z
  unfold a_rel
  split
  · exact ⟨no, no⟩
  · exact ⟨no, no⟩
  · next q1 q2 e1 e2 =>
    have so1 : (ev en B t1 none).1 ≠ none := by rw [e1]; exact Option.some_ne_none _
    have so2 : (ev en B t2 none).1 ≠ none := by rw [e2]; exact Option.some_ne_none _
    have O := rel_MO hT w1 w2 m1 m2 so1 so2
    exact ⟨cl_ok hT (r_ok O w), cl_ok hT (r_ok O (r_op w))⟩
theorem okS_t (h1 : B.n = A.n) (h2 : B.a = A.a) (h3 : B.rm = A.rm) {C : Option ab} (h : okS B C) : okS A C := fun D hD => by
  obtain ⟨a, b, c, d⟩ := h D hD
  exact ⟨a, b.trans h1, c.trans h2, d.trans h3⟩
/-- all that comes of it is in order -/
theorem spl_ok : ∀ t, (∀ an on done, wC sN en A t false → okS A on → okS A (spl en t false an on done).1 ∧ okS A (spl en t false an on done).2.1) ∧ (∀ an on done, wC sN en A t true → okS A on → okS A done → okS A (spl en t true an on done).1 ∧ okS A (spl en t true an on done).2.1) := by
  have no : okS A none := fun _ z => by cases z
  intro t
  induction t with
  | leaf u => exact ⟨(fun _ _ _ w => by cases w), fun _ _ _ _ h1 h2 => ⟨h1, h2⟩⟩
  | branch n cs r ih1 ih2 =>
    have F : ∀ an on done, wC sN en A (.branch n cs r) false → okS A on → okS A (spl en (.branch n cs r) false an on done).1 ∧ okS A (spl en (.branch n cs r) false an on done).2.1 := fun an on done w h => by
      cases on with
      | none => exact ⟨no, no⟩
      | some P =>
        obtain ⟨t1, n1, a1, r1⟩ := h P rfl
        by_cases k26 : tK n = 26
        · rw [spl_26 k26]
          have := ih1.1 false (some P) none (wC_26 k26 w) h
          exact ⟨this.2, this.1⟩
        · by_cases k25 : tK n = 24 ∨ tK n = 25
          · rw [spl_25 k25]
            have := ih1.2 (decide (tK n = 25)) (some P) none (wC_25 k25 w) h no
            unfold s_fx
            split
            · exact this
            · exact ⟨this.2, this.1⟩
          · obtain ⟨b1, b2, m1, c1, m2, c2, r2, rfl, d1, d2, d3, d4, d5, d6⟩ := wC_27 k26 k25 w
            rw [spl_27 b1]
            have q := rel_ok (w := tK n - 27) t1 ((wS_ab n1 a1 r1 _).1 d1) ((wS_ab n1 a1 r1 _).1 d4) d3 d6
            exact ⟨okS_t n1 a1 r1 q.1, okS_t n1 a1 r1 q.2⟩
    refine ⟨F, fun an on done w h1 h2 => ?_⟩
    obtain ⟨f1, f2⟩ := F an on none (wC_f w) h1
    rw [spl_L]
    cases an with
    | true =>
      rw [if_pos rfl, if_pos rfl]
      exact ih2.2 true _ _ (wC_r w) f1 (join_ok h2 f2)
    | false =>
      rw [if_neg (by decide), if_neg (by decide)]
      exact ih2.2 false _ _ (wC_r w) f2 (join_ok h2 f1)
end SPs
