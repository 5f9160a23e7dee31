set_option maxRecDepth 100000
/-! the parts of a SUM as nodes: number, whether turned, the row that begins there -/
def pg : tr → Bool → Nat → Bool → List (Nat × Bool × tr)
  | .leaf _, _, _, _ => []
  | .branch n cs r, false, k, tu =>
    if tK n = 15 then pg cs false (k + 1) (!tu)
    else if tK n = 17 then (match cs with
      | .leaf _ => []
      | .branch m c' r' => pg (.branch m c' r') false (k + 1) tu ++ pg r' true (k + 1 + (1 + ts c')) tu)
    else [(k, tu, .branch n cs r)]
  | .branch n cs r, true, k, tu => pg cs false (k + 1) (if tK n = 18 then tu else !tu) ++ pg r true (k + 1 + ts cs) tu
section PGE
variable {n m : Nat} {cs cs' r r' : tr} {en : Int → Nat} {A : ab} {k : Nat} {tu : Bool}
theorem pg_L : pg (.branch n cs r) true k tu = pg cs false (k + 1) (if tK n = 18 then tu else !tu) ++ pg r true (k + 1 + ts cs) tu := rfl
theorem pg_15 (h : tK n = 15) : pg (.branch n cs r) false k tu = pg cs false (k + 1) (!tu) := by
  rcases cs with _ | ⟨_, _, _⟩
  all_goals
    show (if tK n = 15 then _ else _) = _
    rw [if_pos h]
theorem pg_17 (h : tK n = 17) : pg (.branch n (.branch m cs' r') r) false k tu = pg (.branch m cs' r') false (k + 1) tu ++ pg r' true (k + 1 + (1 + ts cs')) tu := by
  show (if tK n = 15 then _ else if tK n = 17 then _ else _) = _
  rw [if_neg (by omega), if_pos h]
theorem pg_1 (h : ¬ tK n = 15) (h2 : ¬ tK n = 17) : pg (.branch n cs r) false k tu = [(k, tu, .branch n cs r)] := by
  rcases cs with _ | ⟨_, _, _⟩
  all_goals
    show (if tK n = 15 then _ else if tK n = 17 then _ else _) = _
    rw [if_neg h, if_neg h2]
/-- what a node is as a part -/
def pgE (en : Int → Nat) (A : ab) (e : Nat × Bool × tr) : pa := match e.2.2 with
  | .leaf _ => (e.2.1, -2, 0, 0)
  | .branch n cs r => p1 en A n cs r e.2.1
theorem pg_pt {sN : Int → Prop} : ∀ t, (∀ k tu, wS sN en A t false → pt en A t false tu = (pg t false k tu).map (pgE en A)) ∧ (∀ k tu, wS sN en A t true → pt en A t true tu = (pg t true k tu).map (pgE en A)) ∧ (∀ k tu, wS sN en A (tT t) true → pt en A (tT t) true tu = (pg (tT t) true k tu).map (pgE en A)) := by
  intro t
  induction t with
  | leaf u => exact ⟨fun k tu w => absurd w (fun z => z), fun _ _ _ => rfl, fun _ _ _ => rfl⟩
  | branch n cs r ih1 ih2 =>
    refine ⟨fun k tu w => ?_, fun k tu w => ?_, ih2.2.1⟩
    · by_cases k15 : tK n = 15
      · rw [pt_15 k15, pg_15 k15]; exact ih1.1 _ _ (w_15 k15 w)
      · by_cases k1' : tK n = 17
        · obtain ⟨m, cs', r', rfl, w1, w2⟩ := w_17 (k17 k1') w
          have q2 : pt en A r' true tu = (pg r' true (k + 1 + (1 + ts cs')) tu).map (pgE en A) := ih1.2.2 (k + 1 + (1 + ts cs')) tu w2
          rw [pt_17 k1', pg_17 k1', List.map_append, ih1.1 (k + 1) tu w1, q2]
        · rw [pt_1 k15 k1', pg_1 k15 k1']; rfl
    · rw [pt_L, pg_L, List.map_append, ih1.1 (k + 1) _ w.2.1, ih2.2.1 (k + 1 + ts cs) tu w.2.2]
theorem pg_len : ∀ t, (∀ mo k tu, (pg t mo k tu).length = pn t mo) ∧ (∀ mo k tu, (pg (tT t) mo k tu).length = pn (tT t) mo) := by
  intro t
  induction t with
  | leaf u => exact ⟨fun _ _ _ => rfl, fun _ _ _ => rfl⟩
  | branch n cs r ih1 ih2 =>
    refine ⟨fun mo k tu => ?_, ih2.1⟩
    cases mo with
    | false =>
      by_cases k15 : tK n = 15
      · rw [pg_15 k15, pn_15 k15]; exact ih1.1 _ _ _
      · by_cases k1' : tK n = 17
        · rcases cs with _ | ⟨m, cs', r'⟩
          · show (if tK n = 15 then _ else if tK n = 17 then _ else _ : List (Nat × Bool × tr)).length = (if tK n = 15 then _ else if tK n = 17 then _ else _ : Nat)
            rw [if_neg k15, if_pos k1', if_neg k15, if_pos k1']; rfl
          · rw [pg_17 k1', pn_17 k1', List.length_append, ih1.1]
            exact congrArg _ (ih1.2 _ _ _)
        · rw [pg_1 k15 k1', pn_1 k15 k1']; rfl
    | true => rw [pg_L, pn_L, List.length_append, ih1.1, ih2.1]
def tH : tr → Nat
  | .leaf _ => 0
  | .branch _ cs _ => 1 + ts cs
theorem tH_ts (t : tr) : tH t ≤ ts t := by
  cases t with
  | leaf u => exact Nat.le_refl _
  | branch n cs r => show 1 + ts cs ≤ 1 + ts cs + ts r; omega
theorem pn_ts : ∀ t, pn t false ≤ tH t ∧ pn t true ≤ ts t ∧ pn (tT t) true ≤ ts (tT t) := by
  intro t
  induction t with
  | leaf u => exact ⟨Nat.le_refl _, Nat.le_refl _, Nat.le_refl _⟩
  | branch n cs r ih1 ih2 =>
    have q := tH_ts cs
    refine ⟨?_, ?_, ih2.2.1⟩
    · show _ ≤ 1 + ts cs
      by_cases k15 : tK n = 15
      · rw [pn_15 k15]; have := ih1.1; omega
      · by_cases k1' : tK n = 17
        · rcases cs with _ | ⟨m, cs', r'⟩
          · show (if tK n = 15 then _ else if tK n = 17 then _ else _ : Nat) ≤ _
            rw [if_neg k15, if_pos k1']; exact Nat.zero_le _
          · rw [pn_17 k1', ts_B]
            have a : _ ≤ 1 + ts cs' := ih1.1
            have b : pn r' true ≤ ts r' := ih1.2.2
            omega
        · rw [pn_1 k15 k1']; omega
    · rw [pn_L, ts_B]
      have a := ih1.1
      have b := ih2.2.1
      omega
/-- what holds of the nodes that are parts -/
abbrev pgP (K V Z : Nat → Int32) (sN : Int → Prop) (en : Int → Nat) (A : ab) (lo hi H : Nat) (e : Nat × Bool × tr) : Prop := (nd K V Z e.1 e.2.2) ∧ (lo ≤ e.1) ∧ (e.1 + ts e.2.2 ≤ hi) ∧ (wS sN en A e.2.2 false) ∧ (th e.2.2 ≤ H)
theorem pgP.nd {K V Z : Nat → Int32} {sN : Int → Prop} {en : Int → Nat} {A : ab} {lo hi H : Nat} {e : Nat × Bool × tr} (q : pgP K V Z sN en A lo hi H e) : nd K V Z e.1 e.2.2 := q.1
theorem pgP.lo {K V Z : Nat → Int32} {sN : Int → Prop} {en : Int → Nat} {A : ab} {lo hi H : Nat} {e : Nat × Bool × tr} (q : pgP K V Z sN en A lo hi H e) : lo ≤ e.1 := q.2.1
theorem pgP.hi {K V Z : Nat → Int32} {sN : Int → Prop} {en : Int → Nat} {A : ab} {lo hi H : Nat} {e : Nat × Bool × tr} (q : pgP K V Z sN en A lo hi H e) : e.1 + ts e.2.2 ≤ hi := q.2.2.1
theorem pgP.w {K V Z : Nat → Int32} {sN : Int → Prop} {en : Int → Nat} {A : ab} {lo hi H : Nat} {e : Nat × Bool × tr} (q : pgP K V Z sN en A lo hi H e) : wS sN en A e.2.2 false := q.2.2.2.1
theorem pgP.h {K V Z : Nat → Int32} {sN : Int → Prop} {en : Int → Nat} {A : ab} {lo hi H : Nat} {e : Nat × Bool × tr} (q : pgP K V Z sN en A lo hi H e) : th e.2.2 ≤ H := q.2.2.2.2
theorem pg_all {K V Z : Nat → Int32} {sN : Int → Prop} : ∀ t, (∀ k tu H, wS sN en A t false → nd K V Z k t → th t ≤ H → ∀ e ∈ pg t false k tu, pgP K V Z sN en A k (k + ts t) H e) ∧ (∀ k tu H, wS sN en A t true → nd K V Z k t → th t ≤ H → ∀ e ∈ pg t true k tu, pgP K V Z sN en A k (k + ts t) H e) ∧ (∀ k tu H, wS sN en A (tT t) true → nd K V Z k (tT t) → th (tT t) ≤ H → ∀ e ∈ pg (tT t) true k tu, pgP K V Z sN en A k (k + ts (tT t)) H e) := by
  intro t
  induction t with
  | leaf u => exact ⟨fun k tu H w => absurd w (fun z => z), fun k tu H _ _ _ e he => absurd he List.not_mem_nil, fun k tu H _ _ _ e he => absurd he List.not_mem_nil⟩
  | branch n cs r ih1 ih2 =>
    refine ⟨fun k tu H w d hH e he => ?_, fun k tu H w d hH e he => ?_, ih2.2.1⟩
    · have hb := hH
      rw [th_B] at hb
      obtain ⟨d1, d2, d3, d4, d5⟩ := d
      have tB := ts_B (n := n) (cs := cs) (r := r)
      by_cases k15 : tK n = 15
      · rw [pg_15 k15] at he
        obtain ⟨p1, p2, p3, p4, p5⟩ := ih1.1 (k + 1) _ H (w_15 k15 w) d4 (by omega) e he
        exact ⟨p1, by omega, by omega, p4, p5⟩
      · by_cases k1' : tK n = 17
        · obtain ⟨m, cs', r', rfl, w1, w2⟩ := w_17 (k17 k1') w
          rw [pg_17 k1'] at he
          have dd := d4
          rw [nd_B] at dd
          have tq : ts (.branch m cs' r') = 1 + ts cs' + ts r' := rfl
          have e5 : k + 1 + 1 + ts cs' = k + 1 + (1 + ts cs') := by omega
          rw [e5] at dd
          have hr' : th r' ≤ th (.branch m cs' r') := by rw [th_B]; omega
          rcases List.mem_append.mp he with he | he
          · obtain ⟨p1, p2, p3, p4, p5⟩ := ih1.1 (k + 1) _ H w1 d4 (by omega) e he
            exact ⟨p1, by omega, by omega, p4, p5⟩
          · obtain ⟨p1, p2, p3, p4, p5⟩ := ih1.2.2 (k + 1 + (1 + ts cs')) tu H w2 dd.2.2.2.2 (by show th r' ≤ H; omega) e he
            have p3' : e.1 + ts e.2.2 ≤ k + 1 + (1 + ts cs') + ts r' := p3
            exact ⟨p1, by omega, by omega, p4, p5⟩
        · rw [pg_1 k15 k1'] at he
          rcases List.mem_singleton.mp he with rfl
          exact ⟨⟨d1, d2, d3, d4, d5⟩, Nat.le_refl _, Nat.le_refl _, w, hH⟩
    · have hb := hH
      rw [th_B] at hb
      obtain ⟨d1, d2, d3, d4, d5⟩ := d
      rw [pg_L] at he
      rw [ts_B]
      rcases List.mem_append.mp he with he | he
      · obtain ⟨p1, p2, p3, p4, p5⟩ := ih1.1 (k + 1) _ H w.2.1 d4 (by omega) e he
        exact ⟨p1, by omega, by omega, p4, p5⟩
      · obtain ⟨p1, p2, p3, p4, p5⟩ := ih2.2.1 (k + 1 + ts cs) tu H w.2.2 d5 (by omega) e he
        exact ⟨p1, by omega, by omega, p4, p5⟩
/-- where the SUM's range is something, so is each part's -/
theorem pg_some {sN : Int → Prop} : ∀ t, (∀ k tu, wS sN en A t false → (ev en A t none).1 ≠ none → ∀ e ∈ pg t false k tu, (ev en A e.2.2 none).1 ≠ none) ∧ (∀ k tu q, wS sN en A t true → (ev en A t (some q)).1 ≠ none → ∀ e ∈ pg t true k tu, (ev en A e.2.2 none).1 ≠ none) ∧ (∀ k tu q, wS sN en A (tT t) true → (ev en A (tT t) (some q)).1 ≠ none → ∀ e ∈ pg (tT t) true k tu, (ev en A e.2.2 none).1 ≠ none) := by
  have bi : ∀ (q : er) (f : Int → Int → er), (e_bi q f).1 ≠ none → q.1 ≠ none ∧ ∃ a b, (f a b).1 ≠ none ∧ q.1 = some (a, b) := fun q f h => by
    cases hp : (e_bi q f).1 with
    | none => exact absurd hp h
    | some p =>
      obtain ⟨a, b, h1, h2⟩ := e_bi_s hp
      exact ⟨by rw [h1]; exact Option.some_ne_none _, a, b, by rw [h2]; exact Option.some_ne_none _, h1⟩
  intro t
  induction t with
  | leaf u => exact ⟨fun k tu w => absurd w (fun z => z), fun k tu q _ _ e he => absurd he List.not_mem_nil, fun k tu q _ _ e he => absurd he List.not_mem_nil⟩
  | branch n cs r ih1 ih2 =>
    refine ⟨fun k tu w h e he => ?_, fun k tu q w h e he => ?_, ih2.2.1⟩
    · by_cases k15 : tK n = 15
      · rw [pg_15 k15] at he
        rw [ev_15 k15] at h
        exact ih1.1 _ _ (w_15 k15 w) (bi _ _ h).1 e he
      · by_cases k1' : tK n = 17
        · obtain ⟨m, cs', r', rfl, w1, w2⟩ := w_17 (k17 k1') w
          rw [pg_17 k1'] at he
          rw [ev_17 (k17 k1')] at h
          obtain ⟨h1, a, b, h2, -⟩ := bi _ _ h
          rcases List.mem_append.mp he with he | he
          · exact ih1.1 _ _ w1 h1 e he
          · exact ih1.2.2 _ _ _ w2 h2 e he
        · rw [pg_1 k15 k1'] at he
          rcases List.mem_singleton.mp he with rfl
          exact h
    · rw [pg_L] at he
      rw [ev_L] at h
      obtain ⟨h1, a, b, h2, -⟩ := bi _ _ h
      obtain ⟨-, a2, b2, h3, -⟩ := bi _ _ h2
      rcases List.mem_append.mp he with he | he
      · exact ih1.1 _ _ w.2.1 h1 e he
      · exact ih2.2.1 _ _ _ w.2.2 h3 e he
end PGE
