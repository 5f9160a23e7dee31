set_option maxRecDepth 100000
/-! several limits: their order doesn't matter -/
abbrev lm : Type := Nat × Nat × Int
def a_lims (l : List lm) (A : ab) : ab := l.foldl (fun A c => a_lim c.1 c.2.1 c.2.2 A) A
def lmM (c : lm) (i j : Nat) : Prop := (i = oc_b c.2.1 ∧ j = c.1) ∨ (i = oc_b c.1 ∧ j = c.2.1)
def lmV (c : lm) : Int := if c.1 = c.2.1 then 2 * c.2.2 else c.2.2
section LMS
variable {A B : ab} {l l2 : List lm} {c : lm} {i j : Nat}
theorem lims_0 : a_lims [] A = A := rfl
theorem lims_c : a_lims (c :: l) A = a_lims l (a_lim c.1 c.2.1 c.2.2 A) := rfl
theorem lims_a : a_lims (l ++ l2) A = a_lims l2 (a_lims l A) := List.foldl_append
theorem lims_1 : a_lims (l ++ [c]) A = a_lim c.1 c.2.1 c.2.2 (a_lims l A) := lims_a
theorem lims_f : ∀ (l : List lm) (A : ab), (a_lims l A).n = A.n ∧ (a_lims l A).a = A.a ∧ (a_lims l A).lo = A.lo ∧ (a_lims l A).hi = A.hi ∧ (a_lims l A).rm = A.rm := by
  intro l
  induction l with
  | nil => intro A; exact ⟨rfl, rfl, rfl, rfl, rfl⟩
  | cons c l ih => intro A; rw [lims_c]; exact ih _
theorem lims_le : ∀ (l : List lm) (A : ab) (z : Int), z ≤ (a_lims l A).m i j ↔ z ≤ A.m i j ∧ ∀ c ∈ l, lmM c i j → z ≤ lmV c := by
  intro l
  induction l with
  | nil => intro A z; exact ⟨fun h => ⟨h, fun c hc => absurd hc List.not_mem_nil⟩, fun h => h.1⟩
  | cons c l ih =>
    intro A z
    rw [lims_c, ih]
    have e : z ≤ (a_lim c.1 c.2.1 c.2.2 A).m i j ↔ z ≤ A.m i j ∧ (lmM c i j → z ≤ lmV c) := by
      rw [a_lim_at]
      unfold lmM lmV
      by_cases q : (i = oc_b c.2.1 ∧ j = c.1) ∨ (i = oc_b c.1 ∧ j = c.2.1)
      · rw [if_pos q]
        constructor
        · intro h; exact ⟨by omega, fun _ => by omega⟩
        · rintro ⟨h1, h2⟩
          have := h2 q
          omega
      · rw [if_neg q]
        exact ⟨fun h => ⟨h, fun z => absurd z q⟩, fun h => h.1⟩
    rw [e]
    constructor
    · rintro ⟨⟨h1, h2⟩, h3⟩
      refine ⟨h1, fun c' hc' => ?_⟩
      rcases List.mem_cons.mp hc' with rfl | hc'
      · exact h2
      · exact h3 c' hc'
    · rintro ⟨h1, h2⟩
      exact ⟨⟨h1, h2 c List.mem_cons_self⟩, fun c' hc' => h2 c' (List.mem_cons_of_mem _ hc')⟩
theorem ab_ext (h1 : A.n = B.n) (h2 : A.a = B.a) (h3 : ∀ i j, A.m i j = B.m i j) (h4 : A.lo = B.lo) (h5 : A.hi = B.hi) (h6 : A.rm = B.rm) : A = B := by
  obtain ⟨n, a, m, lo, hi, rm⟩ := A
  obtain ⟨n', a', m', lo', hi', rm'⟩ := B
  have e1 : n = n' := h1
  have e2 : a = a' := h2
  have e3 : m = m' := funext fun i => funext fun j => h3 i j
  have e4 : lo = lo' := h4
  have e5 : hi = hi' := h5
  have e6 : rm = rm' := h6
  subst e1 e2 e3 e4 e5 e6
  rfl
/-- the same limits, in any order, each one maybe turned round, over bases that differ only above a limit -/
theorem lims_eq (hn : A.n = B.n) (ha : A.a = B.a) (hlo : A.lo = B.lo) (hhi : A.hi = B.hi) (hrm : A.rm = B.rm) (hAB : ∀ i j, A.m i j ≠ B.m i j → (∃ c ∈ l, lmM c i j ∧ lmV c ≤ A.m i j) ∧ ∃ c ∈ l2, lmM c i j ∧ lmV c ≤ B.m i j) (h1 : ∀ c ∈ l, ∃ c' ∈ l2, (∀ i j, lmM c i j → lmM c' i j) ∧ lmV c' ≤ lmV c) (h2 : ∀ c ∈ l2, ∃ c' ∈ l, (∀ i j, lmM c i j → lmM c' i j) ∧ lmV c' ≤ lmV c) : a_lims l A = a_lims l2 B := by
  obtain ⟨f1, f2, f3, f4, f5⟩ := lims_f l A
  obtain ⟨g1, g2, g3, g4, g5⟩ := lims_f l2 B
  refine ab_ext (by rw [f1, g1, hn]) (by rw [f2, g2, ha]) (fun i j => ?_) (by rw [f3, g3, hlo]) (by rw [f4, g4, hhi]) (by rw [f5, g5, hrm])
  have key : ∀ z, z ≤ (a_lims l A).m i j ↔ z ≤ (a_lims l2 B).m i j := fun z => by
    rw [lims_le, lims_le]
    constructor
    · rintro ⟨p, q⟩
      have q' : ∀ c ∈ l2, lmM c i j → z ≤ lmV c := fun c hc m => by
        obtain ⟨c', hc', m', v'⟩ := h2 c hc
        exact Int.le_trans (q c' hc' (m' i j m)) v'
      refine ⟨?_, q'⟩
      by_cases e : A.m i j = B.m i j
      · rw [← e]; exact p
      · obtain ⟨-, c, hc, m, v⟩ := hAB i j e
        exact Int.le_trans (q' c hc m) v
    · rintro ⟨p, q⟩
      have q' : ∀ c ∈ l, lmM c i j → z ≤ lmV c := fun c hc m => by
        obtain ⟨c', hc', m', v'⟩ := h1 c hc
        exact Int.le_trans (q c' hc' (m' i j m)) v'
      refine ⟨?_, q'⟩
      by_cases e : A.m i j = B.m i j
      · rw [e]; exact p
      · obtain ⟨⟨c, hc, m, v⟩, -⟩ := hAB i j e
        exact Int.le_trans (q' c hc m) v
  have a1 := (key ((a_lims l A).m i j)).mp (Int.le_refl _)
  have a2 := (key ((a_lims l2 B).m i j)).mpr (Int.le_refl _)
  omega
theorem lims_C : ∀ (l : List lm) (A : ab), oc_C A.n A.m → (∀ c ∈ l, c.1 < 2 * A.n ∧ c.2.1 < 2 * A.n ∧ c.1 ≠ oc_b c.2.1) → oc_C A.n (a_lims l A).m := by
  intro l
  induction l with
  | nil => intro A h _; exact h
  | cons c l ih =>
    intro A h w
    rw [lims_c]
    obtain ⟨w1, w2, w3⟩ := w c List.mem_cons_self
    exact ih (a_lim c.1 c.2.1 c.2.2 A) (a_lim_C h w1 w2 w3) (fun c' hc' => w c' (List.mem_cons_of_mem _ hc'))
end LMS
/-! the range of parts as a function -/
noncomputable def otV (A : ab) (ps : List pa) (sk : Nat → Bool) : Int × Int := Classical.epsilon (fun p => OT (a_gr A) ps sk p.1 p.2)
theorem otV_eq {A : ab} {ps : List pa} {sk : Nat → Bool} {a b : Int} (h : OT (a_gr A) ps sk a b) : otV A ps sk = (a, b) := by
  have e : OT (a_gr A) ps sk (otV A ps sk).1 (otV A ps sk).2 := Classical.epsilon_spec (p := fun p : Int × Int => OT (a_gr A) ps sk p.1 p.2) ⟨(a, b), h⟩
  obtain ⟨h1, h2⟩ := OT_u e h
  exact Prod.ext h1 h2
theorem OT_ex {A : ab} {ps : List pa} {sk : Nat → Bool} : ∃ a b, OT (a_gr A) ps sk a b := by
  by_cases c : pq2 ps sk
  · obtain ⟨i, j, ij, hj, ci, cj⟩ := n64_2 c.1
    refine ⟨pqX ps - a_gr A (oc_b (pqU ps i)) (oc_b (pqU ps j)), pqX ps + a_gr A (pqU ps i) (pqU ps j), fun _ i' j' ij' hj' ci' cj' => ?_, fun z => absurd c z⟩
    · have u1 := n64_2u c.1 (i := i) (j := j) (k := i') (by omega) (by omega) hj (by omega) ci cj ci'
      have u2 := n64_2u c.1 (i := i) (j := j) (k := j') (by omega) (by omega) hj hj' ci cj cj'
      have v1 : i' = i := by omega
      have v2 : j' = j := by omega
      subst v1 v2
      exact ⟨rfl, rfl⟩
  · exact ⟨_, _, fun z => absurd z c, fun _ => ⟨rfl, rfl⟩⟩
theorem otV_OT {A : ab} {ps : List pa} {sk : Nat → Bool} : OT (a_gr A) ps sk (otV A ps sk).1 (otV A ps sk).2 := by
  obtain ⟨a, b, h⟩ := OT_ex (A := A) (ps := ps) (sk := sk)
  rw [otV_eq h]; exact h
theorem otV_sk {A : ab} {ps : List pa} {sk sk' : Nat → Bool} (e : ∀ i, i < ps.length → sk i = sk' i) : otV A ps sk = otV A ps sk' := (otV_eq (OT_sk e otV_OT)).symm
def sk1 (i : Nat) (k : Nat) : Bool := decide (k = i)
def sk2 (i j : Nat) (k : Nat) : Bool := decide (k = i ∨ k = j)
def sk0 (_ : Nat) : Bool := false
/-- what x = SUM tells of x and the free ones but own -/
noncomputable def setC (A : ab) (ps : List pa) (own : Nat → Bool) (x i : Nat) : List lm := if (pqF ps i && !own i) = true then [(2 * x, oc_b (pqU ps i), (otV A ps (sk1 i)).2), (2 * x + 1, pqU ps i, -(otV A ps (sk1 i)).1)] else []
noncomputable def setL (A : ab) (ps : List pa) (own : Nat → Bool) (x : Nat) : Nat → List lm
  | 0 => []
  | n + 1 => setL A ps own x n ++ setC A ps own x n
theorem setL_m {A : ab} {ps : List pa} {own : Nat → Bool} {x : Nat} {c : lm} : ∀ n, c ∈ setL A ps own x n ↔ ∃ i, i < n ∧ pqF ps i = true ∧ own i = false ∧ (c = (2 * x, oc_b (pqU ps i), (otV A ps (sk1 i)).2) ∨ c = (2 * x + 1, pqU ps i, -(otV A ps (sk1 i)).1)) := by
  intro n
  induction n with
  | zero => exact ⟨fun h => absurd h List.not_mem_nil, fun h => by obtain ⟨i, hi, -⟩ := h; omega⟩
  | succ n ih =>
    show c ∈ setL A ps own x n ++ setC A ps own x n ↔ _
    rw [List.mem_append, ih]
    have e : c ∈ setC A ps own x n ↔ pqF ps n = true ∧ own n = false ∧ (c = (2 * x, oc_b (pqU ps n), (otV A ps (sk1 n)).2) ∨ c = (2 * x + 1, pqU ps n, -(otV A ps (sk1 n)).1)) := by
      unfold setC
      by_cases q : (pqF ps n && !own n) = true
      · rw [if_pos q]
        rw [Bool.and_eq_true, Bool.not_eq_true'] at q
        constructor
        · intro hc
          refine ⟨q.1, q.2, ?_⟩
          rcases List.mem_cons.mp hc with h | h
          · exact Or.inl h
          · exact Or.inr (List.mem_singleton.mp h)
        · rintro ⟨-, -, h | h⟩
          · rw [h]; exact List.mem_cons_self
          · rw [h]; exact List.mem_cons_of_mem _ (List.mem_singleton.mpr rfl)
      · rw [if_neg q]
        constructor
        · intro h; exact absurd h List.not_mem_nil
        · rintro ⟨h1, h2, -⟩
          rw [h1, h2] at q
          exact absurd rfl q
    rw [e]
    constructor
    · rintro (⟨i, hi, h⟩ | h)
      · exact ⟨i, by omega, h⟩
      · exact ⟨n, by omega, h⟩
    · rintro ⟨i, hi, h⟩
      by_cases q : i = n
      · rw [q] at h; exact Or.inr h
      · exact Or.inl ⟨i, by omega, h⟩
/-- the free part that is x itself -/
def ownB (ps : List pa) (x i : Nat) : Bool := pqF ps i && decide (pqS ps i = (x : Int))
def ownI (ps : List pa) (x : Nat) : Nat → Option Nat
  | 0 => none
  | n + 1 => if ownB ps x n = true then some n else ownI ps x n
theorem ownI_s {ps : List pa} {x i : Nat} : ∀ n, ownI ps x n = some i → i < n ∧ ownB ps x i = true := by
  intro n
  induction n with
  | zero => intro h; cases h
  | succ n ih =>
    intro h
    have h' : (if ownB ps x n = true then some n else ownI ps x n) = some i := h
    split at h'
    · next q => cases h'; exact ⟨Nat.lt_succ_self _, q⟩
    · obtain ⟨a, b⟩ := ih h'; exact ⟨by omega, b⟩
theorem ownI_n {ps : List pa} {x : Nat} : ∀ n, ownI ps x n = none → ∀ i, i < n → ownB ps x i = false := by
  intro n
  induction n with
  | zero => intro _ i hi; omega
  | succ n ih =>
    intro h i hi
    have h' : (if ownB ps x n = true then some n else ownI ps x n) = none := h
    split at h'
    · cases h'
    · next q =>
      by_cases e : i = n
      · rw [e]; exact Bool.eq_false_iff.mpr q
      · exact ih h' i (by omega)
theorem ownB_u {ps : List pa} {x i k : Nat} (hi : i < ps.length) (hk : k < ps.length) (h1 : ownB ps x i = true) (h2 : ownB ps x k = true) : k = i := by
  rw [ownB, Bool.and_eq_true, decide_eq_true_eq] at h1 h2
  obtain ⟨y, y1, y2, y3⟩ := pqF_s h1.1
  have e : (y : Int) = (x : Int) := by omega
  rw [e] at y3
  exact n64_1u y3 hi hk (decide_eq_true h1.2) (decide_eq_true h2.2)
/-- what x is laid on -/
noncomputable def a_base (A B : ab) (ps : List pa) (x : Nat) (new : Bool) : ab := if new = true then a_add B else match ownI ps x ps.length with
  | some i => a_shift x (otV A ps (sk1 i)).1 (otV A ps (sk1 i)).2 (if (pq ps i).1 = true then a_turn x B else B)
  | none => a_free x B
/-- x = SUM: ranges by A, laid on B -/
noncomputable def a_setP (A B : ab) (ps : List pa) (x : Nat) (new : Bool) (lo hi : Int) : Option ab := a_cl (a_lims (setL A ps (fun i => !new && ownB ps x i) x ps.length ++ [(2 * x, 2 * x, hi), (2 * x + 1, 2 * x + 1, -lo)]) (a_base A B ps x new))
noncomputable def a_set (en : Int → Nat) (A B : ab) (x : Nat) (new : Bool) (t : tr) : Option ab := match (ev en A t none).1 with
  | none => none
  | some q => a_setP A B (pt en A t false false) x new q.1 q.2
/-! bounds of sums of parts -/
theorem sI_l {f : Nat → Int} : ∀ n, sI f (n + 1) = f 0 + sI (fun i => f (i + 1)) n := by
  intro n
  induction n with
  | zero => show (0 : Int) + f 0 = f 0 + 0; omega
  | succ n ih => rw [sI_1, ih, sI_1]; omega
theorem sI_le {f g : Nat → Int} : ∀ n, (∀ i, i < n → f i ≤ g i) → sI f n ≤ sI g n := by
  intro n
  induction n with
  | zero => intro _; exact Int.le_refl _
  | succ n ih =>
    intro w
    have := ih (fun i hi => w i (by omega))
    have := w n (by omega)
    rw [sI_1, sI_1]; omega
theorem sI_cnt {f : Nat → Int} {b : Nat → Bool} {B : Int} (hB : 0 ≤ B) : ∀ n, (∀ i, i < n → b i = true → -B ≤ f i ∧ f i ≤ B) → -(B * n64 b n) ≤ sI (fun i => if b i = true then f i else 0) n ∧ sI (fun i => if b i = true then f i else 0) n ≤ B * n64 b n := by
  intro n
  induction n with
  | zero => intro _; exact ⟨by show -(B * 0) ≤ 0; omega, by show 0 ≤ B * 0; omega⟩
  | succ n ih =>
    intro w
    obtain ⟨h1, h2⟩ := ih (fun i hi => w i (by omega))
    have hn := w n (by omega)
    rw [sI_1, n64_1]
    by_cases c : b n = true
    · obtain ⟨q1, q2⟩ := hn c
      rw [if_pos c, if_pos c]
      push_cast
      rw [Int.mul_add]
      omega
    · rw [if_neg c, if_neg c, Nat.add_zero]
      omega
def fL (p : pa) : Int := if p.1 = true then -p.2.2.2 else p.2.2.1
def fH (p : pa) : Int := if p.1 = true then -p.2.2.1 else p.2.2.2
def lsum (f : pa → Int) : List pa → Int
  | [] => 0
  | p :: ps => f p + lsum f ps
theorem lsum_a {f : pa → Int} : ∀ a b : List pa, lsum f (a ++ b) = lsum f a + lsum f b := by
  intro a
  induction a with
  | nil => intro b; show _ = 0 + _; rw [Int.zero_add]; rfl
  | cons p a ih => intro b; show f p + lsum f (a ++ b) = f p + lsum f a + lsum f b; rw [ih]; omega
theorem sI_lsum {f : pa → Int} : ∀ ps : List pa, sI (fun i => f (pq ps i)) ps.length = lsum f ps := by
  intro ps
  induction ps with
  | nil => rfl
  | cons p ps ih =>
    show sI (fun i => f (pq (p :: ps) i)) (ps.length + 1) = f p + lsum f ps
    rw [sI_l, ← ih]
    rfl
/-- + and - alone stand between the parts of a SUM -/
def pz : tr → Bool → Prop
  | .leaf _, _ => True
  | .branch n cs _, false => if tK n = 15 then pz cs false else if tK n = 17 then (match cs with
    | .leaf _ => True
    | .branch m c' r' => pz (.branch m c' r') false ∧ pz r' true) else True
  | .branch n cs r, true => (tK n = 18 ∨ tK n = 19) ∧ pz cs false ∧ pz r true
section FBs
variable {n m : Nat} {cs cs' r r' : tr} {en : Int → Nat} {A : ab} {sN : Int → Prop}
theorem pz_15 (h : tK n = 15) (w : pz (.branch n cs r) false) : pz cs false := by
  rcases cs with _ | ⟨_, _, _⟩
  all_goals
    have w' : (if tK n = 15 then _ else _) := w
    rw [if_pos h] at w'
    exact w'
theorem pz_17 (h : tK n = 17) (w : pz (.branch n (.branch m cs' r') r) false) : pz (.branch m cs' r') false ∧ pz r' true := by
  have w' : (if tK n = 15 then _ else if tK n = 17 then _ else _) := w
  rw [if_neg (by omega), if_pos h] at w'
  exact w'
theorem pt_tu : ∀ t, (∀ mo tu, lsum fL (pt en A t mo (!tu)) = -lsum fH (pt en A t mo tu) ∧ lsum fH (pt en A t mo (!tu)) = -lsum fL (pt en A t mo tu)) ∧ (∀ mo tu, lsum fL (pt en A (tT t) mo (!tu)) = -lsum fH (pt en A (tT t) mo tu) ∧ lsum fH (pt en A (tT t) mo (!tu)) = -lsum fL (pt en A (tT t) mo tu)) := by
  intro t
  induction t with
  | leaf u => exact ⟨fun _ _ => ⟨rfl, rfl⟩, fun _ _ => ⟨rfl, rfl⟩⟩
  | branch n cs r ih1 ih2 =>
    refine ⟨fun mo tu => ?_, ih2.1⟩
    cases mo with
    | false =>
      by_cases k15 : tK n = 15
      · rw [pt_15 k15, pt_15 k15]; exact ih1.1 false (!tu)
      · by_cases k1' : tK n = 17
        · rcases cs with _ | ⟨m, cs', r'⟩
          · have e : ∀ tu, pt en A (.branch n (.leaf ()) r) false tu = [] := fun tu => by
              show (if tK n = 15 then _ else if tK n = 17 then _ else _) = _
              rw [if_neg k15, if_pos k1']
            rename_i u
            cases u
            rw [e, e]; exact ⟨rfl, rfl⟩
          · obtain ⟨a1, a2⟩ := ih1.1 false tu
            obtain ⟨b1, b2⟩ := ih1.2 true tu
            have b1 : lsum fL (pt en A r' true (!tu)) = -lsum fH (pt en A r' true tu) := b1
            have b2 : lsum fH (pt en A r' true (!tu)) = -lsum fL (pt en A r' true tu) := b2
            rw [pt_17 k1', pt_17 k1', lsum_a, lsum_a, lsum_a, lsum_a, a1, a2, b1, b2]
            constructor <;> omega
        · rw [pt_1 k15 k1', pt_1 k15 k1']
          show fL (p1 en A n cs r (!tu)) + 0 = -(fH (p1 en A n cs r tu) + 0) ∧ fH (p1 en A n cs r (!tu)) + 0 = -(fL (p1 en A n cs r tu) + 0)
          unfold p1 fL fH
          split
          · cases tu <;> simp
          · cases tu <;> simp
    | true =>
      rw [pt_L, pt_L, lsum_a, lsum_a, lsum_a, lsum_a]
      obtain ⟨b1, b2⟩ := ih2.1 true tu
      have e : (if tK n = 18 then !tu else !(!tu)) = !(if tK n = 18 then tu else !tu) := by split <;> rfl
      obtain ⟨a1, a2⟩ := ih1.1 false (if tK n = 18 then tu else !tu)
      rw [e, a1, a2, b1, b2]
      constructor <;> omega
def nmQ (en : Int → Nat) (A : ab) (nm : Option Int) (a b : Int) : Prop := ∀ v, nm = some v → en v < A.n ∧ a = -a_gr A (2 * en v + 1) (2 * en v + 1) ∧ b = a_gr A (2 * en v) (2 * en v)
theorem a_gr_2 (hT : ab_T A) {v w : Nat} (hv : v < 2 * A.n) (hw : w < 2 * A.n) (e : v ≠ w) : a_gr A v w ≤ a_gr A v v + a_gr A w w := by
  have t4 := hT.t.2.2.2 (oc_b w) v (oc_bl hw) hv
  have e1 := hT.t.2.2.1 (oc_b w) (oc_bl hw)
  have e2 := hT.t.2.2.1 (oc_b v) (oc_bl hv)
  rw [oc_bb] at t4 e1 e2
  have g1 : a_gr A v w = A.m (oc_b w) v := if_neg e
  have g2 : a_gr A v v = A.m (oc_b v) v / 2 := if_pos rfl
  have g3 : a_gr A w w = A.m (oc_b w) w / 2 := if_pos rfl
  rw [g1, g2, g3]
  omega
theorem e_ints_v {p q x y : Int} (h : (e_ints p q).1 = some (x, y)) : p ≤ x ∧ y ≤ q := by
  unfold e_ints at h
  dsimp only at h
  split at h
  · cases h
    omega
  · cases h
theorem ev_nm {t : tr} {v : Int} (h : tN t = some v) (w : wS sN en A t false) {c d : Int} (e : (ev en A t none).1 = some (c, d)) : en v < A.n ∧ c = -a_gr A (2 * en v + 1) (2 * en v + 1) ∧ d = a_gr A (2 * en v) (2 * en v) := by
  cases t with
  | leaf u => exact absurd w (fun z => z)
  | branch n cs r =>
    have h' : (if tK n = 13 then some (tV n) else none) = some v := h
    split at h'
    · next k =>
      cases h'
      rw [ev_13 k] at e
      cases e
      exact ⟨(w_13 k w).2, rfl, rfl⟩
    · cases h'
/-- + or - by ranges keeps within the sums -/
theorem two_b (hT : ab_T A) {k : Nat} (hk : k = 18 ∨ k = 19) {nm nm2 : Option Int} {a b c d sa sb Lc Hc x y : Int} (h1 : sa ≤ a) (h2 : b ≤ sb) (hab : a ≤ b) (h3 : Lc ≤ c) (h4 : d ≤ Hc) (hcd : c ≤ d) (q1 : nmQ en A nm a b) (q2 : nmQ en A nm2 c d) (e : (e_two en A k nm nm2 a b c d).1 = some (x, y)) : sa + (if k = 18 then Lc else -Hc) ≤ x ∧ y ≤ sb + (if k = 18 then Hc else -Lc) := by
  have op : (e_op k a b c d).1 = some (x, y) → sa + (if k = 18 then Lc else -Hc) ≤ x ∧ y ≤ sb + (if k = 18 then Hc else -Lc) := fun e => by
    unfold e_op at e
    rcases hk with k1 | k1
    · rw [if_pos k1] at e ⊢
      rw [if_pos k1]
      have := e_ints_v e
      omega
    · rw [if_neg (by omega), if_pos k1] at e
      rw [if_neg (by omega), if_neg (by omega)]
      have := e_ints_v e
      omega
  unfold e_two at e
  split at e
  · next v1 v2 =>
    obtain ⟨p1, p2, p3⟩ := q1 v1 rfl
    obtain ⟨r1, r2, r3⟩ := q2 v2 rfl
    rw [if_pos hk] at e
    unfold e_nm at e
    split at e
    · next s =>
      rw [← s] at r2 r3
      rcases hk with k1 | k1
      · rw [if_neg (by omega)] at e
        rw [if_pos k1, if_pos k1]
        have := e_ints_v e
        omega
      · rw [if_pos k1] at e
        cases e
        rw [if_neg (by omega), if_neg (by omega)]
        omega
    · next s =>
      have ev := e_ints_v e
      rcases hk with k1 | k1
      · rw [if_pos k1] at ev
        rw [if_pos k1, if_pos k1]
        have b0 : oc_b (2 * en v2) = 2 * en v2 + 1 := by unfold oc_b; rw [if_pos (by omega)]
        rw [b0] at ev
        have g1 := a_gr_2 hT (v := 2 * en v1 + 1) (w := 2 * en v2 + 1) (by omega) (by omega) (by omega)
        have g2 := a_gr_2 hT (v := 2 * en v1) (w := 2 * en v2) (by omega) (by omega) (by omega)
        omega
      · rw [if_neg (by omega)] at ev
        rw [if_neg (by omega), if_neg (by omega)]
        have b1 : oc_b (2 * en v2 + 1) = 2 * en v2 := by unfold oc_b; rw [if_neg (by omega)]; omega
        rw [b1] at ev
        have g1 := a_gr_2 hT (v := 2 * en v1 + 1) (w := 2 * en v2) (by omega) (by omega) (by omega)
        have g2 := a_gr_2 hT (v := 2 * en v1) (w := 2 * en v2 + 1) (by omega) (by omega) (by omega)
        omega
  · exact op e
def FB0 (sN : Int → Prop) (en : Int → Nat) (A : ab) (t : tr) : Prop := wS sN en A t false → pz t false → ∀ x y, (ev en A t none).1 = some (x, y) → lsum fL (pt en A t false false) ≤ x ∧ y ≤ lsum fH (pt en A t false false)
def FB1 (sN : Int → Prop) (en : Int → Nat) (A : ab) (t : tr) : Prop := wS sN en A t true → pz t true → ∀ a b nm sa sb x y, iI a → iI b → sa ≤ a → b ≤ sb → a ≤ b → nmQ en A nm a b → (ev en A t (some (a, b, nm))).1 = some (x, y) → sa + lsum fL (pt en A t true false) ≤ x ∧ y ≤ sb + lsum fH (pt en A t true false)
/-- the sums of the parts' ranges hold the SUM's range -/
theorem form_b (hT : ab_T A) : ∀ t, FB0 sN en A t ∧ FB1 sN en A t ∧ FB1 sN en A (tT t) := by
  have L1 : ∀ u, FB1 sN en A (.leaf u) := fun u _ _ a b nm sa sb x y _ _ h1 h2 _ _ e => by
    rw [ev_0] at e
    cases e
    show sa + 0 ≤ a ∧ b ≤ sb + 0
    omega
  intro t
  induction t with
  | leaf u => exact ⟨fun w => absurd w (fun z => z), L1 u, L1 u⟩
  | branch n cs r ih1 ih2 =>
    refine ⟨fun w z x y e => ?_, fun w z a b nm sa sb x y ia ib h1 h2 hab hq e => ?_, ih2.2.1⟩
    · by_cases k15 : tK n = 15
      · rw [ev_15 k15] at e
        obtain ⟨a, b, e1, e2⟩ := e_bi_s e
        obtain ⟨q1, q2⟩ := ih1.1 (w_15 k15 w) (pz_15 k15 z) a b e1
        obtain ⟨t1, t2⟩ := (pt_tu (en := en) (A := A) cs).1 false false
        have := e_ints_v e2
        rw [pt_15 k15]
        have t1 : lsum fL (pt en A cs false (!false)) = _ := t1
        rw [t1, t2]
        omega
      · by_cases k1' : tK n = 17
        · obtain ⟨m, cs', r', rfl, w1, w2⟩ := w_17 (k17 k1') w
          obtain ⟨z1, z2⟩ := pz_17 k1' z
          rw [ev_17 (k17 k1')] at e
          obtain ⟨a, b, e1, e2⟩ := e_bi_s e
          obtain ⟨q1, q2⟩ := ih1.1 w1 z1 a b e1
          obtain ⟨ia, ib, iab⟩ := (ev_in hT _).1 w1 a b e1
          rw [pt_17 k1', lsum_a, lsum_a]
          exact ih1.2.2 w2 z2 a b _ _ _ x y ia ib q1 q2 iab (fun v hv => ev_nm (t := .branch m cs' r') hv w1 e1) e2
        · rw [pt_1 k15 k1']
          unfold p1
          rw [e]
          show x + 0 ≤ x ∧ y ≤ y + 0
          omega
    · rw [ev_L] at e
      obtain ⟨c, d, e1, e2⟩ := e_bi_s e
      obtain ⟨a', b', e3, e4⟩ := e_bi_s e2
      obtain ⟨w0, w1, w2⟩ := w
      obtain ⟨z0, z1, z2⟩ := z
      obtain ⟨q1, q2⟩ := ih1.1 w1 z1 c d e1
      obtain ⟨ic, id', icd⟩ := (ev_in hT _).1 w1 c d e1
      obtain ⟨s1, s2⟩ := two_b hT z0 (nm := nm) (nm2 := tN cs) h1 h2 hab q1 q2 icd hq (fun v hv => ev_nm hv w1 e1) e3
      obtain ⟨ia', ib', iab'⟩ := e_two_in ia ib ic id' e3
      obtain ⟨f1, f2⟩ := ih2.2.1 w2 z2 a' b' none _ _ x y ia' ib' s1 s2 iab' (fun v hv => by cases hv) e4
      obtain ⟨t1, t2⟩ := (pt_tu (en := en) (A := A) cs).1 false false
      have t1 : lsum fL (pt en A cs false true) = _ := t1
      have t2 : lsum fH (pt en A cs false true) = _ := t2
      rw [pt_L, lsum_a, lsum_a]
      rcases z0 with k1 | k1
      · rw [if_pos k1] at f1 f2 ⊢
        omega
      · rw [if_neg (by omega)] at f1 f2 ⊢
        have e9 : (!false) = true := rfl
        rw [e9, t1, t2]
        omega
end FBs
