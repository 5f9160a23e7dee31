set_option maxRecDepth 100000
/-! tokens as the reference's parser needs them: RTK -/
def tkVs (B : Nat → Int32) (n : Nat) : tks → Prop
  | [] => True
  | (k, p, w) :: r => (k ∈ kvs ∧ (k = 3 → w = cw isG B (n - p) p ∧ p + w ≤ n)) ∧ tkVs B n r
section TVs
variable {B : Nat → Int32} {n i : Nat}
theorem isS_v (c : Int32) (h : isS c = true) : c ∈ kvs := by
  unfold isS at h
  have h' := of_decide_eq_true h
  rcases h' with e | e | e | e | e | e | e | e | e | e | e | e | e | e | e | e | e <;> (rw [e]; decide)
theorem s2_v (b c : Int32) : s2 b c ∈ kvs := by
  rcases s2_r b c with e | e | e | e | e | e | e <;> (rw [e]; decide)
theorem wdK_v {w : Nat} : wdK B n i w ∈ kvs ∧ wdK B n i w ≠ 3 := by
  rcases wdK_r (B := B) (n := n) (i := i) (w := w) with ⟨e, -⟩ | e | e | e | e | e | e | e | e <;> (rw [e]; exact ⟨by decide, by decide⟩)
theorem tkD_v (c1 : ¬ tkD B n i = 1) : tkD B n i ∈ kvs ∧ (tkD B n i = 3 → tkW B n i = cw isG B (n - i) i) := by
  have w0 := tkD_w c1
  have e : tkD B n i = tkA B n i (tkW B n i) := by unfold tkD; rw [if_neg w0]
  rw [e]
  unfold tkA
  by_cases cl : isL (B i) = true
  · rw [if_pos cl]
    exact ⟨wdK_v.1, fun z => absurd z wdK_v.2⟩
  rw [if_neg cl]
  by_cases cg : isG (B i) = true
  · rw [if_pos cg]
    refine ⟨by decide, fun _ => ?_⟩
    have ew : tkW B n i = nmW B n i := by unfold tkW; rw [if_neg cl, if_pos cg]
    rw [ew] at w0 ⊢
    unfold nmW at w0 ⊢
    by_cases q : (1 < cw isG B (n - i) i ∧ B i = 48) ∨ isL (bt B n (i + cw isG B (n - i) i)) = true ∨ 2147483647 < nvl B (n - i) i 0
    · rw [if_pos q] at w0; exact absurd rfl w0
    · rw [if_neg q]
  rw [if_neg cg]
  have ew : tkW B n i = if s2 (B i) (bt B n (i + 1)) = 1 then (if isS (B i) = true then 1 else 0) else 2 := by unfold tkW; rw [if_neg cl, if_neg cg]
  by_cases c2 : tkW B n i = 2
  · rw [if_pos c2]
    refine ⟨s2_v _ _, fun z => ?_⟩
    rcases s2_r (B i) (bt B n (i + 1)) with e | e | e | e | e | e | e <;> (rw [e] at z; exact absurd z (by decide))
  · rw [if_neg c2]
    have hs : isS (B i) = true := by
      by_cases q : s2 (B i) (bt B n (i + 1)) = 1
      · rw [if_pos q] at ew
        by_cases q2 : isS (B i) = true
        · exact q2
        · rw [if_neg q2] at ew; exact absurd ew w0
      · rw [if_neg q] at ew; exact absurd ew c2
    exact ⟨isS_v _ hs, fun z => absurd z (isS_n _ hs).2.1⟩
theorem scn_V : ∀ f i, i ≤ n → tkVs B n (scn B n f i) := by
  intro f
  induction f with
  | zero => exact fun i hi => ⟨⟨by decide, fun z => absurd z (by decide)⟩, trivial⟩
  | succ f ih =>
    intro i hi
    by_cases c : i < n
    · by_cases c1 : tkD B n i = 1
      · have e : scn B n (f + 1) i = [(1, i, tkW B n i)] := by show (if i < n then _ else _) = _; rw [if_pos c, if_pos c1]
        rw [e]
        exact ⟨⟨by decide, fun z => absurd z (by decide)⟩, trivial⟩
      · have e : scn B n (f + 1) i = (tkD B n i, i, tkW B n i) :: scn B n f (bl B n (n - (i + tkW B n i)) false (i + tkW B n i)) := by show (if i < n then _ else _) = _; rw [if_pos c, if_neg c1]
        rw [e]
        have wb := tkW_b (B := B) c
        have hb := bl_b (B := B) (n := n) (n - (i + tkW B n i)) false (i + tkW B n i) (by omega)
        obtain ⟨v1, v2⟩ := tkD_v c1
        exact ⟨⟨v1, fun z => ⟨v2 z, wb⟩⟩, ih _ hb.2⟩
    · have e : scn B n (f + 1) i = [(0, n, 0)] := by show (if i < n then _ else _) = _; rw [if_neg c]
      rw [e]
      exact ⟨⟨by decide, fun z => absurd z (by decide)⟩, trivial⟩
theorem tkV_i : ∀ T i, tkVs B n T → i < T.length → tkK T i ∈ kvs ∧ (tkK T i = 3 → tkWd T i = cw isG B (n - tkPl T i) (tkPl T i) ∧ tkPl T i + tkWd T i ≤ n) := by
  intro T
  induction T with
  | nil => exact fun i _ h => absurd h (Nat.not_lt_zero _)
  | cons x r ih =>
    obtain ⟨k, p, w⟩ := x
    intro i v hi
    cases i with
    | zero => exact v.1
    | succ i => exact ih i v.2 (Nat.lt_of_succ_lt_succ hi)
theorem toks_V : tkVs B n (toks B n) := scn_V n _ (bl_b (B := B) (n := n) n false 0 (by omega)).2
theorem cw_G : ∀ f i j, j < cw isG B f i → isG (B (i + j)) = true := by
  intro f
  induction f with
  | zero => exact fun i j h => absurd h (Nat.not_lt_zero _)
  | succ f ih =>
    intro i j h
    have e : cw isG B (f + 1) i = if isG (B i) = true then cw isG B f (i + 1) + 1 else 0 := rfl
    rw [e] at h
    by_cases c : isG (B i) = true
    · rw [if_pos c] at h
      cases j with
      | zero => exact c
      | succ j =>
        have := ih (i + 1) j (by omega)
        rw [show i + 1 + j = i + (j + 1) from by omega] at this
        exact this
    · rw [if_neg c] at h; omega
theorem nvl_c {B' : Nat → Int32} : ∀ f i v, (∀ j, j < f → B' (i + j) = B (i + j)) → nvl B' f i v = nvl B f i v := by
  intro f
  induction f with
  | zero => exact fun _ _ _ => rfl
  | succ f ih =>
    intro i v e
    have e0 := e 0 (by omega)
    rw [Nat.add_zero] at e0
    show (if isG (B' i) = true ∧ v ≤ 2147483647 then nvl B' f (i + 1) (10 * v + (B' i).toInt - 48) else v) = (if isG (B i) = true ∧ v ≤ 2147483647 then nvl B f (i + 1) (10 * v + (B i).toInt - 48) else v)
    rw [e0, ih (i + 1) _ (fun j hj => by
      have := e (j + 1) (by omega)
      rw [show i + (j + 1) = i + 1 + j from by omega] at this
      exact this)]
/-- out of what the scan has written -/
theorem RTK_of {h : mh_H} (F : RF h) (hn : n ≤ 16400) (hm : (toks B n).length ≤ n + 1) (eB : ∀ i, i < n → mh_i h 82 i = B i) (Q : tkQ (mh_i h 83) (mh_i h 84) (mh_i h 85) 0 (toks B n)) : RTK h (toks B n).length (tkK (toks B n)) (tkPl (toks B n)) (fun i => nvl B (n - tkPl (toks B n) i) (tkPl (toks B n) i) 0) := by
  refine ⟨F, by omega, toks_M, fun i hi => ?_, fun i hi => ?_, fun i hi k3 => ?_⟩
  · obtain ⟨q1, q2, q3⟩ := tkQ_g (toks B n) 0 i Q hi
    rw [Nat.zero_add] at q1
    exact ⟨q1, (tkV_i _ i toks_V hi).1⟩
  · obtain ⟨q1, q2, q3⟩ := tkQ_g (toks B n) 0 i Q hi
    rw [Nat.zero_add] at q2
    have := (tkG_i _ 0 i toks_G hi).2.1
    exact ⟨q2, by omega⟩
  · obtain ⟨q1, q2, q3⟩ := tkQ_g (toks B n) 0 i Q hi
    rw [Nat.zero_add] at q3
    obtain ⟨v1, v2⟩ := (tkV_i _ i toks_V hi).2 k3
    have g3 := (tkG_i _ 0 i toks_G hi).2.2.2.1 k3
    refine ⟨tkWd (toks B n) i, q3 (by rw [k3]; decide), by omega, fun j hj => ?_, ?_, g3.2⟩
    · rw [eB _ (by omega)]
      rw [v1] at hj
      exact cw_G _ _ j hj
    · rw [nvl_c (B := B) (tkWd (toks B n) i) (tkPl (toks B n) i) 0 (fun j hj => eB _ (by omega)), v1]
      exact (nvl_f _ _ _).symm
end TVs
