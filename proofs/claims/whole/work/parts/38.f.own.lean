set_option maxRecDepth 100000
/-! which part is a slot's own; the class's list of limits -/
section CLp
variable {ps : List pa} {x y i j : Nat} {A B : ab} {c : lm} {new : Bool} {lo hi : Int}
theorem ownI_e (hi : i < ps.length) (h : ownB ps y i = true) : ownI ps y ps.length = some i := by
  cases ho : ownI ps y ps.length with
  | none => rw [ownI_n _ ho i hi] at h; cases h
  | some k =>
    obtain ⟨k1, k2⟩ := ownI_s _ ho
    rw [ownB_u hi k1 h k2]
theorem ownB_F (h : ownB ps y i = true) : pqF ps i = true ∧ pqS ps i = (y : Int) := by
  rw [ownB, Bool.and_eq_true, decide_eq_true_eq] at h; exact h
theorem ownB_m (h1 : pqF ps i = true) (h2 : pqS ps i = (y : Int)) : ownB ps y i = true := by
  rw [ownB, Bool.and_eq_true, decide_eq_true_eq]; exact ⟨h1, h2⟩
theorem skS_0 (hs : ∀ k, k < ps.length → pqF ps k = true → (pqS ps k).toNat < 12) : ∀ k, k < ps.length → skS ps (-1) (-1) k = sk0 k := fun k hk => by
  unfold skS sk0
  cases f : pqF ps k with
  | false => rfl
  | true =>
    have := hs k hk f
    unfold rK
    rw [decide_eq_false (fun z => by rw [rK_m1 (by omega)] at z; exact z.elim (fun q => q) (fun q => q))]; rfl
theorem skS_1 (hs : ∀ k, k < ps.length → pqF ps k = true → (pqS ps k).toNat < 12) (y12 : y < 12) (h : ownI ps y ps.length = some i) : ∀ k, k < ps.length → skS ps (Int32.ofNat y) (-1) k = sk1 i k := fun k hk => by
  obtain ⟨i1, i2⟩ := ownI_s _ h
  obtain ⟨i3, i4⟩ := ownB_F i2
  unfold skS sk1
  cases f : pqF ps k with
  | false => exact (decide_eq_false (fun z => by rw [z, i3] at f; cases f)).symm
  | true =>
    have := hs k hk f
    have w := of_decide_eq_true f
    rw [Bool.true_and]
    unfold rK
    refine decide_eq_decide.mpr ?_
    rw [rK_m1 (by omega), nn_eq (by omega) (by omega), or_false]
    exact ⟨fun z => ownB_u i1 hk i2 (ownB_m f (by omega)), fun z => by rw [z, i4]; rfl⟩
theorem skS_2 (hs : ∀ k, k < ps.length → pqF ps k = true → (pqS ps k).toNat < 12) (x12 : x < 12) (y12 : y < 12) (h : ownI ps x ps.length = some i) (h' : ownI ps y ps.length = some j) : ∀ k, k < ps.length → skS ps (Int32.ofNat x) (Int32.ofNat y) k = sk2 i j k := fun k hk => by
  obtain ⟨i1, i2⟩ := ownI_s _ h
  obtain ⟨i3, i4⟩ := ownB_F i2
  obtain ⟨j1, j2⟩ := ownI_s _ h'
  obtain ⟨j3, j4⟩ := ownB_F j2
  unfold skS sk2
  cases f : pqF ps k with
  | false => exact (decide_eq_false (fun z => by
      rcases z with z | z
      · rw [z, i3] at f; cases f
      · rw [z, j3] at f; cases f)).symm
  | true =>
    have := hs k hk f
    have w := of_decide_eq_true f
    rw [Bool.true_and]
    unfold rK
    refine decide_eq_decide.mpr ?_
    rw [nn_eq (by omega) (by omega), nn_eq (by omega) (by omega)]
    constructor
    · rintro (z | z)
      · exact Or.inl (ownB_u i1 hk i2 (ownB_m f (by omega)))
      · exact Or.inr (ownB_u j1 hk j2 (ownB_m f (by omega)))
    · rintro (z | z)
      · rw [z, i4]; exact Or.inl rfl
      · rw [z, j4]; exact Or.inr rfl
/-- what x = SUM tells, by slots -/
noncomputable def clC (A : ab) (ps : List pa) (x y : Nat) : List lm := if y = x then [] else match ownI ps y ps.length with
  | some i => [(2 * x, oc_b (pqU ps i), (otV A ps (sk1 i)).2), (2 * x + 1, pqU ps i, -(otV A ps (sk1 i)).1)]
  | none => []
noncomputable def clL (A : ab) (ps : List pa) (x : Nat) : Nat → List lm
  | 0 => []
  | n + 1 => clL A ps x n ++ clC A ps x n
theorem clL_m : ∀ n, c ∈ clL A ps x n ↔ ∃ y i, y < n ∧ y ≠ x ∧ ownI ps y ps.length = some i ∧ (c = (2 * x, oc_b (pqU ps i), (otV A ps (sk1 i)).2) ∨ c = (2 * x + 1, pqU ps i, -(otV A ps (sk1 i)).1)) := by
  intro n
  induction n with
  | zero => exact ⟨fun h => absurd h List.not_mem_nil, fun h => by obtain ⟨y, i, hi, -⟩ := h; omega⟩
  | succ n ih =>
    show c ∈ clL A ps x n ++ clC A ps x n ↔ _
    rw [List.mem_append, ih]
    have e : c ∈ clC A ps x n ↔ n ≠ x ∧ ∃ i, ownI ps n ps.length = some i ∧ (c = (2 * x, oc_b (pqU ps i), (otV A ps (sk1 i)).2) ∨ c = (2 * x + 1, pqU ps i, -(otV A ps (sk1 i)).1)) := by
      unfold clC
      by_cases q : n = x
      · rw [if_pos q]
        exact ⟨fun h => absurd h List.not_mem_nil, fun h => absurd q h.1⟩
      · rw [if_neg q]
        cases ho : ownI ps n ps.length with
        | none => exact ⟨fun h => absurd h List.not_mem_nil, fun h => by obtain ⟨-, i, e, -⟩ := h; cases e⟩
        | some i =>
          dsimp only
          constructor
          · intro hc
            refine ⟨q, i, rfl, ?_⟩
            rcases List.mem_cons.mp hc with h | h
            · exact Or.inl h
            · exact Or.inr (List.mem_singleton.mp h)
          · rintro ⟨-, i', e, h⟩
            cases e
            rcases h with h | h
            · rw [h]; exact List.mem_cons_self
            · rw [h]; exact List.mem_cons_of_mem _ (List.mem_singleton.mpr rfl)
    rw [e]
    constructor
    · rintro (⟨y, i, hy, h⟩ | ⟨hn, i, h⟩)
      · exact ⟨y, i, by omega, h⟩
      · exact ⟨n, i, by omega, hn, h⟩
    · rintro ⟨y, i, hy, h1, h2⟩
      by_cases q : y = n
      · rw [q] at h1 h2; exact Or.inr ⟨h1, i, h2⟩
      · exact Or.inl ⟨y, i, by omega, h1, h2⟩
/-- the same limits as by parts -/
theorem cl_set (hs : ∀ k, k < ps.length → pqF ps k = true → (pqS ps k).toNat < 12) (hn : new = true → ∀ i, i < ps.length → ownB ps x i = false) : c ∈ clL A ps x 12 ↔ c ∈ setL A ps (fun i => !new && ownB ps x i) x ps.length := by
  rw [clL_m, setL_m]
  constructor
  · rintro ⟨y, i, hy, ne, ho, h⟩
    obtain ⟨i1, i2⟩ := ownI_s _ ho
    obtain ⟨i3, i4⟩ := ownB_F i2
    refine ⟨i, i1, i3, ?_, h⟩
    show (!new && ownB ps x i) = false
    have : ownB ps x i = false := Bool.eq_false_iff.mpr (fun z => by have := (ownB_F z).2; omega)
    rw [this, Bool.and_false]
  · rintro ⟨i, hi, fi, oi, h⟩
    have s12 := hs i hi fi
    have w := of_decide_eq_true fi
    have oi' : (!new && ownB ps x i) = false := oi
    refine ⟨(pqS ps i).toNat, i, s12, fun z => ?_, ownI_e hi (ownB_m fi (by omega)), h⟩
    have ob := ownB_m (y := x) fi (by omega)
    cases new with
    | true => rw [hn rfl i hi] at ob; cases ob
    | false => rw [ob] at oi'; cases oi'
theorem cl_eq {M : ab} {tl : List lm} (hs : ∀ k, k < ps.length → pqF ps k = true → (pqS ps k).toNat < 12) (hn : new = true → ∀ i, i < ps.length → ownB ps x i = false) : a_lims (clL A ps x 12 ++ tl) M = a_lims (setL A ps (fun i => !new && ownB ps x i) x ps.length ++ tl) M := by
  refine lims_eq rfl rfl rfl rfl rfl (fun i j z => absurd rfl z) (fun c hc => ⟨c, ?_, fun _ _ m => m, Int.le_refl _⟩) (fun c hc => ⟨c, ?_, fun _ _ m => m, Int.le_refl _⟩)
  · rcases List.mem_append.mp hc with q | q
    · exact List.mem_append_left _ ((cl_set hs hn).mp q)
    · exact List.mem_append_right _ q
  · rcases List.mem_append.mp hc with q | q
    · exact List.mem_append_left _ ((cl_set hs hn).mpr q)
    · exact List.mem_append_right _ q
/-- what the class lays x on -/
noncomputable def cB (A B : ab) (ps : List pa) (x : Nat) : ab := match ownI ps x ps.length with
  | some i => a_shift x (otV A ps (sk1 i)).1 (otV A ps (sk1 i)).2 (if (pq ps i).1 = true then a_turn x B else B)
  | none => a_free x B
theorem free_add {B : ab} : a_free B.n (a_add B) = a_add B := by
  refine ab_ext rfl rfl (fun i j => ?_) rfl rfl rfl
  show a_frm B.n (a_frm B.n B.m) i j = a_frm B.n B.m i j
  have hi := oc_b_h i
  have hj := oc_b_h j
  by_cases c : i / 2 = B.n ∨ j / 2 = B.n
  · unfold a_frm
    rw [if_pos c, if_pos c]
    by_cases e : i = j
    · rw [if_pos e, if_pos e]
    · rw [if_neg e, if_neg e]
      by_cases e2 : i / 2 = j / 2
      · rw [if_pos e2, if_pos e2]
      · rw [if_neg e2, if_neg e2]
        by_cases e3 : i / 2 = B.n
        · rw [if_pos e3, if_pos e3, if_neg (show ¬ (oc_b j / 2 = B.n ∨ j / 2 = B.n) by omega)]
        · rw [if_neg e3, if_neg e3, if_neg (show ¬ (i / 2 = B.n ∨ oc_b i / 2 = B.n) by omega), if_neg e3]
  · unfold a_frm
    rw [if_neg c]
theorem SO.own (S : SO A B ps x new lo hi) : new = true → ∀ i, i < ps.length → ownB ps x i = false := fun hn i hi' => Bool.eq_false_iff.mpr (fun z => by
  obtain ⟨z1, z2⟩ := ownB_F z
  have u := S.U i hi' z1
  have uh := pqU_h (ps := ps) (i := i)
  have x1 := S.x1 hn
  have n := S.n
  omega)
theorem SO.cb (S : SO A B ps x new lo hi) : cB A (if new = true then a_add B else B) ps x = a_base A B ps x new := by
  cases new with
  | false =>
    unfold a_base cB
    rw [if_neg (by decide), if_neg (by decide)]
    cases ownI ps x ps.length <;> rfl
  | true =>
    have x1 := (S.x1 rfl).1
    have ho : ownI ps x ps.length = none := by
      cases q : ownI ps x ps.length with
      | none => rfl
      | some i =>
        obtain ⟨i1, i2⟩ := ownI_s _ q
        rw [S.own rfl i i1] at i2; cases i2
    unfold a_base cB
    rw [if_pos rfl, if_pos rfl, ho]
    dsimp only
    rw [x1]
    exact free_add
end CLp
section CWs
variable {d : Nat} {h : mh_H} {P R lP X Y C E TT UU SC SP nC nE nS nb na : Nat} {en : Int → Nat} {A : ab} {p0 y i : Nat} {ps : List pa}
theorem CW.s12 (K : CW h nb p0 TT UU en A ps) : ∀ k, k < ps.length → pqF ps k = true → (pqS ps k).toNat < 12 := fun k hk f => ptr_s12 K.u hk (of_decide_eq_true f).1
theorem CW.own (K : CW h nb p0 TT UU en A ps) (y12 : y < 12) : sF (mh_i h 41 y) = (ownI ps y ps.length).isSome := by
  obtain ⟨z, hz, hs⟩ := K.s
  rw [hs, ptr_sF K.u hz y12]
  cases ho : ownI ps y ps.length with
  | some i =>
    obtain ⟨i1, i2⟩ := ownI_s _ ho
    obtain ⟨i3, i4⟩ := ownB_F i2
    obtain ⟨x, x1, x2, x3⟩ := pqF_s i3
    have : x = y := by omega
    rw [this] at x3
    exact decide_eq_true x3
  | none =>
    refine decide_eq_false (fun q => ?_)
    have ex : ∃ i, i < ps.length ∧ pqK ps y i = true := by
      refine Classical.byContradiction (fun w => ?_)
      rw [n64_none _ (fun i hi => Bool.eq_false_iff.mpr (fun q => w ⟨i, hi, q⟩))] at q
      omega
    obtain ⟨i, hi, ki⟩ := ex
    have si : pqS ps i = (y : Int) := of_decide_eq_true ki
    have := ownI_e (y := y) hi (ownB_m (decide_eq_true (by rw [si]; exact ⟨by omega, q⟩)) si)
    rw [ho] at this; cases this
theorem CW.sg (K : CW h nb p0 TT UU en A ps) (ho : ownI ps y ps.length = some i) : foU (mh_i h 41) y = pqU ps i ∧ (mh_i h 41 y < 0 ↔ (pq ps i).1 = true) := by
  obtain ⟨i1, i2⟩ := ownI_s _ ho
  obtain ⟨i3, i4⟩ := ownB_F i2
  obtain ⟨z, hz, hs⟩ := K.s
  have u := (ptr_U K.u hz i1 i3).2
  rw [← hs] at u
  have e : (pqS ps i).toNat = y := by omega
  rw [e] at u
  refine ⟨u, ?_⟩
  unfold foU pqU at u
  rw [e] at u
  by_cases c1 : mh_i h 41 y < 0
  · rw [if_pos c1] at u
    by_cases c2 : (pq ps i).1 = true
    · exact ⟨fun _ => c2, fun _ => c1⟩
    · rw [if_neg c2] at u; omega
  · rw [if_neg c1] at u
    by_cases c2 : (pq ps i).1 = true
    · rw [if_pos c2] at u; omega
    · exact ⟨fun z => absurd z c1, fun z => absurd z c2⟩
/-- Ranges.isFree -/
theorem v_114 (G : RG h P R lP X Y C E TT UU SC SP nC nE nS nb na A) (K : CW h nb p0 TT UU en A ps) (y12 : y < 12) : ∀ Q, mcall d 114 [.ref 35, .int (Int32.ofNat y)] h Q = Q (some (.int (kb (ownI ps y ps.length).isSome))) h := by
  intro Q
  have F := G.F
  have c := c_114 (d := d) (h := h) (Q := Q) (o := 35) (SG := 41) (fr := mh_i h 35 12) (mx := mh_i h 35 13) (sg := mh_i h 41) (fl := mh_j h 35 14) (fh := mh_j h 35 15) (li := mh_j h 35 16) (ol := mh_j h 35 17) (oh := mh_j h 35 18) G.g (F.f 35 11 41 (by decide +kernel)) (F.g 41 100 12 (by decide +kernel)) (F.l 41 100 12 (by decide +kernel)) y12
  rw [gS_id, K.own y12] at c
  exact c
end CWs
