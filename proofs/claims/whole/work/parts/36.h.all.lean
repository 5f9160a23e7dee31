set_option maxRecDepth 100000
/-! Analysis.all, over any heap whose rows of parts are weighed -/
theorem k_bd_gr {h : mh_H} {o : Nat} {A : ab} (r : RK h o (some A)) (hT : oc_T A.n A.m) {i j : Nat} (hi : i < 2 * A.n) (hj : j < 2 * A.n) : (k_bd (mh_j h (o + 1)) i j).toInt = a_gr A i j := by
  have r : KM h o A := r
  have e := r.m i j hi hj
  have c := a_gr_c hT.1 hi hj
  unfold k_bd a_gr
  by_cases e1 : j = oc_b i
  · rw [if_pos e1, if_neg (fun z => oc_bn i (by rw [← e1, z])), e1, oc_bb, hT.1.1 i hi]; rfl
  · rw [if_neg e1]
    by_cases e2 : i = j
    · subst e2
      rw [if_pos rfl, if_pos rfl, half_int, e]
      rw [e]
      have := hT.2.2.1 (oc_b i) (oc_bl hi)
      rw [oc_bb] at this; exact this
    · rw [if_neg e2, if_neg e2, e, c]
theorem a_gr_s {A : ab} (hC : oc_C A.n A.m) {v w : Nat} (hv : v < 2 * A.n) (hw : w < 2 * A.n) : a_gr A v w = a_gr A w v := by
  unfold a_gr
  by_cases e : v = w
  · rw [e]
  · rw [if_neg e, if_neg (fun z => e z.symm)]; exact a_gr_c hC hv hw
/-- parts that are in order, each with a range -/
def LQ (sN : Int → Prop) (en : Int → Nat) (A : ab) (l : List (Nat × Bool × tr)) : Prop := ∀ e ∈ l, wS sN en A e.2.2 false ∧ (ev en A e.2.2 none).1 ≠ none
section LQs
variable {sN : Int → Prop} {en : Int → Nat} {A : ab} {l : List (Nat × Bool × tr)}
/-- a part of the list: its kind, slot, range -/
theorem LQ_at (hT : ab_T A) (R : LQ sN en A l) {i : Nat} (hi : i < l.length) : ∃ n cs r x y, (l[i]).2.2 = .branch n cs r ∧ pq (l.map (pgE en A)) i = ((l[i]).2.1, pk en n, x, y) ∧ iI x ∧ iI y ∧ x ≤ y ∧ (ev en A (.branch n cs r) none).1 = some (x, y) ∧ wS sN en A (.branch n cs r) false ∧ (tK n = 13 → en (tV n) < A.n) := by
  have he : l[i]? = some l[i] := List.getElem?_eq_getElem hi
  obtain ⟨w, sm⟩ := R _ (List.getElem_mem hi)
  generalize hee : l[i] = e at *
  obtain ⟨n, cs, r, ht⟩ := w_b w
  obtain ⟨x, y, hv⟩ : ∃ x y, (ev en A e.2.2 none).1 = some (x, y) := by
    cases hq : (ev en A e.2.2 none).1 with
    | none => exact absurd hq sm
    | some p => exact ⟨p.1, p.2, rfl⟩
  obtain ⟨ix, iy, ixy⟩ := (ev_in hT e.2.2).1 w x y hv
  have e1 : (pgE en A e).2.1 = pk en n := by
    unfold pgE
    rw [ht]
    show (p1 en A n cs r e.2.1).2.1 = _
    unfold p1
    split <;> rfl
  rw [ht] at hv w
  refine ⟨n, cs, r, x, y, ht, ?_, ix, iy, ixy, hv, w, fun z => (w_13 z w).2⟩
  rw [pq_at he, pgE_v (x := x) (y := y) (by rw [ht]; exact hv), e1]
theorem pk_1 {n : Nat} : pk en n = -1 ↔ tK n = 12 := by
  unfold pk
  constructor
  · intro z
    by_cases c : tK n = 13
    · rw [if_pos c] at z; omega
    · rw [if_neg c] at z
      by_cases c2 : tK n = 12
      · exact c2
      · rw [if_neg c2] at z; omega
  · intro z
    rw [if_neg (by omega), if_pos z]
theorem pk_0 {n : Nat} : 0 ≤ pk en n ↔ tK n = 13 := by
  unfold pk
  constructor
  · intro z
    by_cases c : tK n = 13
    · exact c
    · rw [if_neg c] at z
      split at z <;> omega
  · intro z
    rw [if_pos z]; omega
/-- ranges of parts are ints; a NAME's is that of its tight bounds -/
theorem LQ_pq (hT : ab_T A) (R : LQ sN en A l) {i : Nat} (hi : i < l.length) : (-2147483648 ≤ pqL (l.map (pgE en A)) i ∧ pqL (l.map (pgE en A)) i ≤ 2147483648 ∧ -2147483648 ≤ pqH (l.map (pgE en A)) i ∧ pqH (l.map (pgE en A)) i ≤ 2147483648 ∧ pqL (l.map (pgE en A)) i ≤ pqH (l.map (pgE en A)) i) ∧ (0 ≤ pqS (l.map (pgE en A)) i → (pqS (l.map (pgE en A)) i).toNat < A.n ∧ pqU (l.map (pgE en A)) i < 2 * A.n ∧ pqL (l.map (pgE en A)) i = -a_gr A (oc_b (pqU (l.map (pgE en A)) i)) (oc_b (pqU (l.map (pgE en A)) i)) ∧ pqH (l.map (pgE en A)) i = a_gr A (pqU (l.map (pgE en A)) i) (pqU (l.map (pgE en A)) i)) := by
  obtain ⟨n, cs, r, x, y, ht, hq, ix, iy, ixy, hv, hw, hn⟩ := LQ_at hT R hi
  obtain ⟨x1, x2⟩ := ix
  obtain ⟨y1, y2⟩ := iy
  unfold pqL pqH pqU pqS
  rw [hq]
  try dsimp only
  refine ⟨?_, fun z => ?_⟩
  · split <;> omega
  · have k13 := pk_0.mp z
    have pk' : pk en n = (en (tV n) : Int) := if_pos k13
    have lt := hn k13
    rw [ev_13 k13] at hv
    cases hv
    rw [pk', Int.toNat_natCast]
    have b0 : oc_b (2 * en (tV n)) = 2 * en (tV n) + 1 := by unfold oc_b; rw [if_pos (by omega)]
    have b1 : oc_b (2 * en (tV n) + 1) = 2 * en (tV n) := by unfold oc_b; rw [if_neg (by omega)]; omega
    cases (l[i]).2.1 with
    | true =>
      simp only [if_true, b1, Int.neg_neg, and_self, and_true]
      omega
    | false =>
      simp only [if_false, Bool.false_eq_true, b0, and_self, and_true]
      omega
end LQs
abbrev WR (h : mh_H) (T : Nat) (sN : Int → Prop) (en : Int → Nat) (N : Nat) (A : ab) (l : List (Nat × Bool × tr)) (H PQ PS PU PF PL PH lP : Nat) : Prop := (AE h T sN en) ∧ (PR h PQ PS PU PF PL PH lP) ∧ (mh_r h 115 23 = some N) ∧ (RK h N (some A)) ∧ (ab_T A) ∧ (mh_i h 115 33 = Int32.ofNat l.length) ∧ (l.length ≤ lP) ∧ (l.length ≤ 12000) ∧ (∀ i e, l[i]? = some e → mh_i h PQ i = Int32.ofNat e.1 ∧ mh_i h PS i = sgn e.2.1 ∧ mh_i h PU i = pSt en e.2.2) ∧ (∀ i, i < l.length → mh_i h PF i = kb (pqF (l.map (pgE en A)) i) ∧ (mh_j h PL i).toInt = pqL (l.map (pgE en A)) i ∧ (mh_j h PH i).toInt = pqH (l.map (pgE en A)) i) ∧ (∀ e ∈ l, pgP (mh_i h 93) (mh_i h 95) (mh_i h 97) sN en A 0 26000 H e ∧ (ev en A e.2.2 none).1 ≠ none)
theorem WR.a {h : mh_H} {T : Nat} {sN : Int → Prop} {en : Int → Nat} {N : Nat} {A : ab} {l : List (Nat × Bool × tr)} {H PQ PS PU PF PL PH lP : Nat} (q : WR h T sN en N A l H PQ PS PU PF PL PH lP) : AE h T sN en := q.1
theorem WR.P {h : mh_H} {T : Nat} {sN : Int → Prop} {en : Int → Nat} {N : Nat} {A : ab} {l : List (Nat × Bool × tr)} {H PQ PS PU PF PL PH lP : Nat} (q : WR h T sN en N A l H PQ PS PU PF PL PH lP) : PR h PQ PS PU PF PL PH lP := q.2.1
theorem WR.r23 {h : mh_H} {T : Nat} {sN : Int → Prop} {en : Int → Nat} {N : Nat} {A : ab} {l : List (Nat × Bool × tr)} {H PQ PS PU PF PL PH lP : Nat} (q : WR h T sN en N A l H PQ PS PU PF PL PH lP) : mh_r h 115 23 = some N := q.2.2.1
theorem WR.k {h : mh_H} {T : Nat} {sN : Int → Prop} {en : Int → Nat} {N : Nat} {A : ab} {l : List (Nat × Bool × tr)} {H PQ PS PU PF PL PH lP : Nat} (q : WR h T sN en N A l H PQ PS PU PF PL PH lP) : RK h N (some A) := q.2.2.2.1
theorem WR.T {h : mh_H} {T : Nat} {sN : Int → Prop} {en : Int → Nat} {N : Nat} {A : ab} {l : List (Nat × Bool × tr)} {H PQ PS PU PF PL PH lP : Nat} (q : WR h T sN en N A l H PQ PS PU PF PL PH lP) : ab_T A := q.2.2.2.2.1
theorem WR.c {h : mh_H} {T : Nat} {sN : Int → Prop} {en : Int → Nat} {N : Nat} {A : ab} {l : List (Nat × Bool × tr)} {H PQ PS PU PF PL PH lP : Nat} (q : WR h T sN en N A l H PQ PS PU PF PL PH lP) : mh_i h 115 33 = Int32.ofNat l.length := q.2.2.2.2.2.1
theorem WR.b {h : mh_H} {T : Nat} {sN : Int → Prop} {en : Int → Nat} {N : Nat} {A : ab} {l : List (Nat × Bool × tr)} {H PQ PS PU PF PL PH lP : Nat} (q : WR h T sN en N A l H PQ PS PU PF PL PH lP) : l.length ≤ lP := q.2.2.2.2.2.2.1
theorem WR.m {h : mh_H} {T : Nat} {sN : Int → Prop} {en : Int → Nat} {N : Nat} {A : ab} {l : List (Nat × Bool × tr)} {H PQ PS PU PF PL PH lP : Nat} (q : WR h T sN en N A l H PQ PS PU PF PL PH lP) : l.length ≤ 12000 := q.2.2.2.2.2.2.2.1
theorem WR.rows {h : mh_H} {T : Nat} {sN : Int → Prop} {en : Int → Nat} {N : Nat} {A : ab} {l : List (Nat × Bool × tr)} {H PQ PS PU PF PL PH lP : Nat} (q : WR h T sN en N A l H PQ PS PU PF PL PH lP) : ∀ i e, l[i]? = some e → mh_i h PQ i = Int32.ofNat e.1 ∧ mh_i h PS i = sgn e.2.1 ∧ mh_i h PU i = pSt en e.2.2 := q.2.2.2.2.2.2.2.2.1
theorem WR.v {h : mh_H} {T : Nat} {sN : Int → Prop} {en : Int → Nat} {N : Nat} {A : ab} {l : List (Nat × Bool × tr)} {H PQ PS PU PF PL PH lP : Nat} (q : WR h T sN en N A l H PQ PS PU PF PL PH lP) : ∀ i, i < l.length → mh_i h PF i = kb (pqF (l.map (pgE en A)) i) ∧ (mh_j h PL i).toInt = pqL (l.map (pgE en A)) i ∧ (mh_j h PH i).toInt = pqH (l.map (pgE en A)) i := q.2.2.2.2.2.2.2.2.2.1
theorem WR.e {h : mh_H} {T : Nat} {sN : Int → Prop} {en : Int → Nat} {N : Nat} {A : ab} {l : List (Nat × Bool × tr)} {H PQ PS PU PF PL PH lP : Nat} (q : WR h T sN en N A l H PQ PS PU PF PL PH lP) : ∀ e ∈ l, pgP (mh_i h 93) (mh_i h 95) (mh_i h 97) sN en A 0 26000 H e ∧ (ev en A e.2.2 none).1 ≠ none := q.2.2.2.2.2.2.2.2.2.2
section WRs
variable {d : Nat} {h h1 : mh_H} {T N H : Nat} {sN : Int → Prop} {en : Int → Nat} {A : ab} {PQ PS PU PF PL PH lP : Nat} {l : List (Nat × Bool × tr)} {W : Nat → Nat → Prop}
theorem WR.q (R : WR h T sN en N A l H PQ PS PU PF PL PH lP) : LQ sN en A l := fun e he => ⟨(R.e e he).1.w, (R.e e he).2⟩
theorem WR_at (R : WR h T sN en N A l H PQ PS PU PF PL PH lP) {i : Nat} (hi : i < l.length) : ∃ n cs r x y, (l[i]).2.2 = .branch n cs r ∧ pq (l.map (pgE en A)) i = ((l[i]).2.1, pk en n, x, y) ∧ iI x ∧ iI y ∧ x ≤ y ∧ (ev en A (.branch n cs r) none).1 = some (x, y) ∧ mh_i h 93 (l[i]).1 = Int32.ofNat (tK n) ∧ (l[i]).1 < 26000 ∧ wS sN en A (.branch n cs r) false ∧ (tK n = 13 → en (tV n) < A.n) := by
  obtain ⟨n, cs, r, x, y, ht, hq, ix, iy, ixy, hv, hw, hn⟩ := LQ_at R.T R.q hi
  obtain ⟨pp, -⟩ := R.e _ (List.getElem_mem hi)
  have nd1 := pp.nd
  have hi' := pp.hi
  rw [ht] at nd1 hi'
  have tB := ts_B (n := n) (cs := cs) (r := r)
  exact ⟨n, cs, r, x, y, ht, hq, ix, iy, ixy, hv, nd1.1, by omega, hw, hn⟩
/-- Analysis.all -/
theorem u_246 (R : WR h T sN en N A l H PQ PS PU PF PL PH lP) {x y : Int32} (hk : ∀ i, i < l.length → rK x y i = true → pqF (l.map (pgE en A)) i = true) : ∃ lo hi : Int64, OT (a_gr A) (l.map (pgE en A)) (rK x y) lo.toInt hi.toInt ∧ (-1000000000000000 ≤ lo.toInt ∧ lo.toInt ≤ 1000000000000000 ∧ -1000000000000000 ≤ hi.toInt ∧ hi.toInt ≤ 1000000000000000) ∧ ∀ Q, mcall (d + 2) 246 [.ref 115, .int x, .int y] h Q = Q none (aS h 115 (mh_i h 115 24) lo hi) := by
  have n12 := R.T.n12
  have P := R.P
  have a := R.a
  have B : GB h 115 93 PQ PS PU PF PL PH N l.length lP := ⟨a.g, a.r0, a.F.g 93 102 26000 (by decide +kernel), a.F.l 93 102 26000 (by decide +kernel), R.r23, RK_ko R.k, P.r27, P.r28, P.r29, P.r30, P.r31, P.r32, P.g27, P.g28, P.g29, P.g30, P.g31, P.g32, P.l27, P.l28, P.l29, P.l30, P.l31, P.l32, R.c, R.b, by have := P.b; omega⟩
  have fre : ∀ i, i < l.length → g_fre h PF i = pqF (l.map (pgE en A)) i := fun i hi => by
    unfold g_fre
    rw [(R.v i hi).1]
    cases pqF (l.map (pgE en A)) i <;> decide
  have slot : ∀ i, i < l.length → 0 ≤ pqS (l.map (pgE en A)) i → mh_i h PU i = Int32.ofNat (pqS (l.map (pgE en A)) i).toNat ∧ (pqS (l.map (pgE en A)) i).toNat < 12 := fun i hi z => by
    have he : l[i]? = some l[i] := List.getElem?_eq_getElem hi
    have q3 := (R.rows i _ he).2.2
    obtain ⟨pp, -⟩ := R.e _ (List.getElem_mem hi)
    unfold pqS at z ⊢
    rw [pq_at he] at z ⊢
    rcases slot_at pp.w R.T with ⟨w1, w2⟩ | ⟨s, s1, s2, s3⟩
    · omega
    · rw [q3, s3, s2, Int.toNat_natCast]
      exact ⟨rfl, by omega⟩
  have c := fun Q => c_246 (d := d) (Q := Q) (al := mh_i h 115 24) (lo := mh_j h 115 25) (hi := mh_j h 115 26) B (fun i hi => by
    obtain ⟨n, cs, r, x, y, ht, hq, ix, iy, ixy, hv, hK, hk', hw, hn⟩ := WR_at R hi
    exact ⟨_, (R.rows i _ (List.getElem?_eq_getElem hi)).1, hk'⟩) (fun i hi hf => by
    rw [fre i hi] at hf
    have w := of_decide_eq_true hf
    exact ⟨_, slot i hi w.1⟩) (x := x) (y := y)
  have LL : (l.map (pgE en A)).length = l.length := List.length_map _
  have O := OT_ra (gr := a_gr A) (ps := l.map (pgE en A)) (sk := rK x y) (lo := mh_j h PL) (hi := mh_j h PH) (num := g_num h 93 PQ) (fre := g_fre h PF) (x := x) (y := y) (bd := k_bd (mh_j h (N + 1))) (sd := g_sd h PS PU) (by rw [LL]; have := R.m; omega) (fun i hi => by
    rw [LL] at hi
    obtain ⟨v1, v2, v3⟩ := R.v i hi
    obtain ⟨n, cs, r, x', y', ht, hq, ix, iy, ixy, hv, hK, hk', hw, hn⟩ := WR_at R hi
    have tk : tK n < 64 := by unfold tK; omega
    refine ⟨v2, v3, ?_, fre i hi, rfl⟩
    unfold g_num pqN pqS
    rw [(R.rows i _ (List.getElem?_eq_getElem hi)).1, nn_clamp (by omega), hK, hq]
    try dsimp only
    by_cases c12 : tK n = 12
    · rw [decide_eq_true (pk_1.mpr c12), c12]; rfl
    · rw [decide_eq_false (fun z => c12 (pk_1.mp z))]
      have : ¬ Int32.ofNat (tK n) = 12 := by rw [ofn_eq (by omega) (by decide)]; exact c12
      exact decide_eq_false this) (fun i hi => by
    rw [LL] at hi
    have := (LQ_pq R.T R.q hi).1
    omega) (fun i hi z => by rw [LL] at hi; exact pqF_N (hk i hi z)) (fun i hi hf => by
    rw [LL] at hi
    have w := of_decide_eq_true hf
    obtain ⟨s1, s2⟩ := slot i hi w.1
    have he : l[i]? = some l[i] := List.getElem?_eq_getElem hi
    have q2 := (R.rows i _ he).2.1
    obtain ⟨n, cs, r, x', y', ht, hq, -⟩ := WR_at R hi
    unfold g_sd pqU
    rw [s1, nn_clamp (by omega), q2, hq]
    try dsimp only
    cases (l[i]).2.1 <;> rfl) (fun i j hi hj ij fi fj => by
    rw [LL] at hi hj
    have wi := of_decide_eq_true fi
    have wj := of_decide_eq_true fj
    obtain ⟨-, u1, -, -⟩ := (LQ_pq R.T R.q hi).2 wi.1
    obtain ⟨-, u2, -, -⟩ := (LQ_pq R.T R.q hj).2 wj.1
    have v1 := oc_bl u1
    have v2 := oc_bl u2
    have g1 := a_gr_r R.T u1 u2
    have g2 := a_gr_r R.T v1 v2
    exact ⟨k_bd_gr R.k R.T.t u1 u2, k_bd_gr R.k R.T.t v1 v2, g1.1, g1.2, g2.1, g2.2⟩)
  rw [LL] at O
  obtain ⟨O1, O2⟩ := O
  refine ⟨_, _, O1, ⟨(O2 _ (Or.inl rfl)).1, (O2 _ (Or.inl rfl)).2, (O2 _ (Or.inr rfl)).1, (O2 _ (Or.inr rfl)).2⟩, fun Q => ?_⟩
  have := c Q
  rw [aS_id] at this
  exact this
end WRs
