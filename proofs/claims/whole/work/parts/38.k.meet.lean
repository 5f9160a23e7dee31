set_option maxRecDepth 100000
/-! to meet f <= c: the class's limits, by slots -/
section MCs
variable {A M : ab} {ps : List pa} {mi : Bool} {c : Int}
noncomputable def mcC (A : ab) (ps : List pa) (mi : Bool) (c : Int) (x y : Nat) : List lm := match ownI ps x ps.length, ownI ps y ps.length with
  | some i, some j => [(mU mi (pqU ps i), mU mi (pqU ps j), c - mLow A ps mi (sk2 i j))]
  | _, _ => []
noncomputable def mcI (A : ab) (ps : List pa) (mi : Bool) (c : Int) (x : Nat) : Nat → List lm
  | 0 => []
  | n + 1 => mcI A ps mi c x n ++ mcC A ps mi c x (x + n)
noncomputable def mcL (A : ab) (ps : List pa) (mi : Bool) (c : Int) : Nat → List lm
  | 0 => []
  | n + 1 => mcL A ps mi c n ++ mcI A ps mi c n (12 - n)
theorem mcC_m {x y : Nat} {e : lm} : e ∈ mcC A ps mi c x y ↔ ∃ i j, ownI ps x ps.length = some i ∧ ownI ps y ps.length = some j ∧ e = (mU mi (pqU ps i), mU mi (pqU ps j), c - mLow A ps mi (sk2 i j)) := by
  unfold mcC
  cases h1 : ownI ps x ps.length with
  | none => exact ⟨fun h => absurd h List.not_mem_nil, fun h => by obtain ⟨i, j, q, -⟩ := h; cases q⟩
  | some i =>
    cases h2 : ownI ps y ps.length with
    | none => exact ⟨fun h => absurd h List.not_mem_nil, fun h => by obtain ⟨i, j, -, q, -⟩ := h; cases q⟩
    | some j =>
      constructor
      · intro h; exact ⟨i, j, rfl, rfl, List.mem_singleton.mp h⟩
      · rintro ⟨i', j', q1, q2, h⟩
        cases q1
        cases q2
        exact List.mem_singleton.mpr h
theorem mcI_m {x : Nat} {e : lm} : ∀ n, e ∈ mcI A ps mi c x n ↔ ∃ y, x ≤ y ∧ y < x + n ∧ e ∈ mcC A ps mi c x y := by
  intro n
  induction n with
  | zero => exact ⟨fun h => absurd h List.not_mem_nil, fun h => by obtain ⟨j, h1, h2, -⟩ := h; omega⟩
  | succ n ih =>
    show e ∈ mcI A ps mi c x n ++ mcC A ps mi c x (x + n) ↔ _
    rw [List.mem_append, ih]
    constructor
    · rintro (⟨j, h1, h2, h⟩ | h)
      · exact ⟨j, h1, by omega, h⟩
      · exact ⟨x + n, by omega, by omega, h⟩
    · rintro ⟨j, h1, h2, h⟩
      by_cases q : j = x + n
      · rw [q] at h; exact Or.inr h
      · exact Or.inl ⟨j, h1, by omega, h⟩
theorem mcL_m {e : lm} : ∀ n, n ≤ 12 → (e ∈ mcL A ps mi c n ↔ ∃ x y, x < n ∧ x ≤ y ∧ y < 12 ∧ e ∈ mcC A ps mi c x y) := by
  intro n
  induction n with
  | zero => intro _; exact ⟨fun h => absurd h List.not_mem_nil, fun h => by obtain ⟨i, j, h1, -⟩ := h; omega⟩
  | succ n ih =>
    intro hn
    show e ∈ mcL A ps mi c n ++ mcI A ps mi c n (12 - n) ↔ _
    rw [List.mem_append, ih (by omega), mcI_m]
    constructor
    · rintro (⟨i, j, h1, h2, h3, h⟩ | ⟨j, h1, h2, h⟩)
      · exact ⟨i, j, by omega, h2, h3, h⟩
      · exact ⟨n, j, by omega, h1, by omega, h⟩
    · rintro ⟨i, j, h1, h2, h3, h⟩
      by_cases q : i = n
      · rw [q] at h h2; exact Or.inr ⟨j, h2, by omega, h⟩
      · exact Or.inl ⟨i, j, by omega, h2, h3, h⟩
theorem mcI_0 {x : Nat} (h : ownI ps x ps.length = none) : ∀ n, mcI A ps mi c x n = [] := by
  intro n
  induction n with
  | zero => rfl
  | succ n ih =>
    show mcI A ps mi c x n ++ mcC A ps mi c x (x + n) = []
    rw [ih]
    unfold mcC
    rw [h]
    rfl
theorem mLow_sk {sk sk' : Nat → Bool} (e : ∀ i, i < ps.length → sk i = sk' i) : mLow A ps mi sk = mLow A ps mi sk' := by
  unfold mLow
  rw [otV_sk e]
theorem sk2_c {i j k : Nat} : sk2 i j k = sk2 j i k := by
  unfold sk2
  exact decide_eq_decide.mpr or_comm
theorem sk2_1 {i k : Nat} : sk1 i k = sk2 i i k := by
  unfold sk1 sk2
  exact decide_eq_decide.mpr (or_self_iff).symm
theorem lm_sw {v w : Nat} {k : Int} : (∀ a b, lmM (v, w, k) a b → lmM (w, v, k) a b) ∧ lmV (w, v, k) = lmV (v, w, k) := by
  refine ⟨fun a b h => Or.symm h, ?_⟩
  unfold lmV
  dsimp only
  by_cases q : v = w
  · rw [if_pos q, if_pos q.symm]
  · rw [if_neg q, if_neg (fun z => q z.symm)]
/-- the same limits as by parts -/
theorem mc_eq (hs : ∀ k, k < ps.length → pqF ps k = true → (pqS ps k).toNat < 12) : a_lims (mcL A ps mi c 12) M = a_lims (mtL A ps mi c ps.length ps.length) M := by
  refine lims_eq rfl rfl rfl rfl rfl (fun i j z => absurd rfl z) (fun e he => ?_) (fun e he => ?_)
  · obtain ⟨x, y, x1, xy, y1, h⟩ := (mcL_m 12 (Nat.le_refl _)).mp he
    obtain ⟨i, j, hi, hj, rfl⟩ := mcC_m.mp h
    obtain ⟨i1, i2⟩ := ownI_s _ hi
    obtain ⟨i3, i4⟩ := ownB_F i2
    obtain ⟨j1, j2⟩ := ownI_s _ hj
    obtain ⟨j3, j4⟩ := ownB_F j2
    by_cases q : i ≤ j
    · exact ⟨_, (mtL_m _ (Nat.le_refl _)).mpr ⟨i, j, i1, q, j1, mtC_m.mpr ⟨i3, j3, rfl⟩⟩, fun _ _ m => m, Int.le_refl _⟩
    · have e1 : mLow A ps mi (sk2 j i) = mLow A ps mi (sk2 i j) := mLow_sk (fun k _ => sk2_c)
      refine ⟨(mU mi (pqU ps j), mU mi (pqU ps i), c - mLow A ps mi (sk2 j i)), (mtL_m _ (Nat.le_refl _)).mpr ⟨j, i, j1, by omega, i1, mtC_m.mpr ⟨j3, i3, rfl⟩⟩, ?_, ?_⟩
      · rw [e1]; exact lm_sw.1
      · rw [e1, lm_sw.2]; exact Int.le_refl _
  · obtain ⟨i, j, i1, ij, j1, h⟩ := (mtL_m _ (Nat.le_refl _)).mp he
    obtain ⟨fi, fj, rfl⟩ := mtC_m.mp h
    have wi := of_decide_eq_true fi
    have wj := of_decide_eq_true fj
    have si := hs i i1 fi
    have sj := hs j j1 fj
    have oi := ownI_e (y := (pqS ps i).toNat) i1 (ownB_m fi (by omega))
    have oj := ownI_e (y := (pqS ps j).toNat) j1 (ownB_m fj (by omega))
    by_cases q : (pqS ps i).toNat ≤ (pqS ps j).toNat
    · exact ⟨_, (mcL_m 12 (Nat.le_refl _)).mpr ⟨_, _, si, q, sj, mcC_m.mpr ⟨i, j, oi, oj, rfl⟩⟩, fun _ _ m => m, Int.le_refl _⟩
    · have e1 : mLow A ps mi (sk2 j i) = mLow A ps mi (sk2 i j) := mLow_sk (fun k _ => sk2_c)
      refine ⟨(mU mi (pqU ps j), mU mi (pqU ps i), c - mLow A ps mi (sk2 j i)), (mcL_m 12 (Nat.le_refl _)).mpr ⟨_, _, sj, by omega, si, mcC_m.mpr ⟨j, i, oj, oi, rfl⟩⟩, ?_, ?_⟩
      · rw [e1]; exact lm_sw.1
      · rw [e1, lm_sw.2]; exact Int.le_refl _
end MCs
/-! a State that isn't tight yet, or nothing -/
def TM (h : mh_H) (H : Nat) : Option ab → Prop
  | none => RN h H
  | some M => ∃ c u, RL h H M c u
section TMs
variable {d : Nat} {h h1 Z : mh_H} {H v w : Nat} {C : Option ab} {L : List lm} {k : Int64}
theorem TM_so (x : TM h H C) : so h H := by
  cases C with
  | none => exact RN.s x
  | some M => obtain ⟨c, u, r⟩ := x; exact r.m.s
theorem TM_fz {W : Nat → Nat → Prop} (f : fz W h h1) (w : ∀ y, y ≤ 2 → ∀ j, ¬ W (H + y) j) (x : TM h H C) : TM h1 H C := by
  cases C with
  | none => exact RN_fz f (w 0 (by omega)) x
  | some M =>
    obtain ⟨c, u, r⟩ := x
    exact ⟨c, u, RL_fz f w r⟩
theorem TM_n (x : TM h H C) : RN (mh_si h H 0 1) H := by
  cases C with
  | none =>
    have x : RN h H := x
    obtain ⟨n, n1, n2⟩ := x.n
    obtain ⟨a, a1, a2⟩ := x.a
    exact ⟨x.s, by rw [hi_si, if_pos ⟨rfl, rfl⟩], ⟨n, n1, by rw [hi_si, if_neg (by omega)]; exact n2⟩, ⟨a, a1, by rw [hi_si, if_neg (by omega)]; exact a2⟩⟩
  | some M =>
    obtain ⟨c, u, r⟩ := x
    have r := r.m
    exact ⟨r.s, by rw [hi_si, if_pos ⟨rfl, rfl⟩], ⟨M.n, r.n12, by rw [hi_si, if_neg (by omega)]; exact r.n⟩, ⟨M.a, r.a6, by rw [hi_si, if_neg (by omega)]; exact r.a⟩⟩
theorem l_147n (x : RN Z H) (hv : v < 24) (hw : w < 24) : ∃ Z', fq (sW H 52) Z Z' ∧ RN Z' H ∧ ∀ Q, mcall (d + 1) 147 [.ref H, .int (Int32.ofNat v), .int (Int32.ofNat w), .long k] Z Q = Q none Z' := by
  have E := fun Q => c_147 (d := d) (Q := Q) (c := k) x.s (v := v) (w := w) hv hw
  by_cases q : lim v w k < sb Z H (oc_b w) v
  · have f : fq (sW H 52) Z (mh_si (mh_J Z (H + 1) (fun j => if j = sc (oc_b w) v then lim v w k else mh_j Z (H + 1) j)) H 5 (sl (mh_i Z H 5) v w)) := fq_t (fq_J (Or.inr (Or.inl rfl))) (fq_si (Or.inl rfl))
    obtain ⟨n, n1, n2⟩ := x.n
    obtain ⟨a, a1, a2⟩ := x.a
    refine ⟨_, f, ⟨so_fq f x.s, ?_, ⟨n, n1, ?_⟩, ⟨a, a1, ?_⟩⟩, fun Q => by rw [E, if_pos q]⟩
    · rw [hi_si, if_neg (by omega), hi_J]; exact x.z
    · rw [hi_si, if_neg (by omega), hi_J]; exact n2
    · rw [hi_si, if_neg (by omega), hi_J]; exact a2
  · exact ⟨Z, fq_id, x, fun Q => by rw [E, if_neg q]⟩
/-- one limit more -/
theorem lim_m (x : TM Z H (C.map (a_lims L))) (hv : v < 24) (hw : w < 24) (hC : ∀ M, C = some M → v < 2 * M.n ∧ w < 2 * M.n) (hvw : v ≠ oc_b w) (hk : -1152921504606846976 ≤ k.toInt ∧ k.toInt ≤ 1152921504606846976) : ∃ Z', fq (sW H 52) Z Z' ∧ TM Z' H (C.map (a_lims (L ++ [(v, w, k.toInt)]))) ∧ ∀ Q, mcall (d + 1) 147 [.ref H, .int (Int32.ofNat v), .int (Int32.ofNat w), .long k] Z Q = Q none Z' := by
  cases C with
  | none => exact l_147n x hv hw
  | some M =>
    obtain ⟨c, u, r⟩ := x
    obtain ⟨Z', u', f, r', e⟩ := lim_c (d := d) r (hC M rfl).1 (hC M rfl).2 hvw hk
    exact ⟨Z', f, ⟨c, u', r'⟩, e⟩
end TMs
