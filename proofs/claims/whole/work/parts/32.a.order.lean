set_option maxRecDepth 100000
/-! what is in order stays so; all slots loose -/
theorem oc_T_sub {n N : Nat} {m : oc_M} (h : oc_T N m) (hn : n ≤ N) : oc_T n m := by
  obtain ⟨⟨h1, h2⟩, h3, h4, h5⟩ := h
  exact ⟨⟨fun i hi => h1 i (by omega), fun i j hi hj => h2 i j (by omega) (by omega)⟩, fun k hk i j hi hj => h3 k (by omega) i j (by omega) (by omega), fun i hi => h4 i (by omega), fun i j hi hj => h5 i j (by omega) (by omega)⟩
theorem T_keep {A : ab} {n a : Nat} (h : ab_T A) (hn : n ≤ A.n) (ha : a ≤ A.a) : ab_T (a_keep n a A) := by
  have n12 := h.n12
  have a6 := h.a6
  refine ⟨by show n ≤ 12; omega, by show a ≤ 6; omega, oc_T_sub h.t hn, fun i j hi hj hij => ?_, fun x hx => ?_⟩
  · have hi : i < 2 * n := hi
    have hj : j < 2 * n := hj
    exact h.up i j (by omega) (by omega) hij
  · have hx : x < a := hx
    exact h.e x (by omega)
theorem T_arr {A : ab} {r : Nat} (h : ab_T A) (ha : A.a < 6) : ab_T (a_arr r A) := by
  refine ⟨h.n12, by show A.a + 1 ≤ 6; omega, h.t, h.up, fun x hx => ?_⟩
  have hx : x < A.a + 1 := hx
  show -2147483648 ≤ (if x = A.a then (0 : Int) else A.lo x) ∧ (if x = A.a then (0 : Int) else A.lo x) ≤ (if x = A.a then 0 else A.hi x) ∧ (if x = A.a then (0 : Int) else A.hi x) ≤ 2147483647
  by_cases c : x = A.a
  · rw [if_pos c, if_pos c]; omega
  · rw [if_neg c, if_neg c]; exact h.e x (by omega)
theorem oc_T_max {n : Nat} {m k : oc_M} (h : oc_T n m) (g : oc_T n k) : oc_T n (fun i j => max (m i j) (k i j)) := by
  obtain ⟨⟨h1, h2⟩, h3, h4, h5⟩ := h
  obtain ⟨⟨g1, g2⟩, g3, g4, g5⟩ := g
  refine ⟨⟨fun i hi => ?_, fun i j hi hj => ?_⟩, fun x hx i j hi hj => ?_, fun i hi => ?_, fun i j hi hj => ?_⟩
  · show max (m i i) (k i i) = 0
    rw [h1 i hi, g1 i hi]; rfl
  · show max (m i j) (k i j) = max (m (oc_b j) (oc_b i)) (k (oc_b j) (oc_b i))
    rw [h2 i j hi hj, g2 i j hi hj]
  · have a := h3 x hx i j hi hj
    have b := g3 x hx i j hi hj
    show max (m i j) (k i j) ≤ max (m i x) (k i x) + max (m x j) (k x j)
    omega
  · have a := h4 i hi
    have b := g4 i hi
    show max (m i (oc_b i)) (k i (oc_b i)) % 2 = 0
    omega
  · have a := h5 i j hi hj
    have b := g5 i j hi hj
    show 2 * max (m i j) (k i j) ≤ max (m i (oc_b i)) (k i (oc_b i)) + max (m (oc_b j) j) (k (oc_b j) j)
    omega
theorem T_join {A B : ab} (h : ab_T A) (g : ab_T B) (hn : A.n = B.n) (ha : A.a = B.a) : ab_T (a_join A B) := by
  refine ⟨h.n12, h.a6, ?_, fun i j hi hj hij => ?_, fun x hx => ?_⟩
  · have gt := g.t
    rw [← hn] at gt
    exact oc_T_max h.t gt
  · have hi : i < 2 * A.n := hi
    have hj : j < 2 * A.n := hj
    have a := h.up i j hi hj hij
    have b := g.up i j (by omega) (by omega) hij
    show max (A.m i j) (B.m i j) ≤ _
    omega
  · have hx : x < A.a := hx
    have a := h.e x hx
    have b := g.e x (by omega)
    show -2147483648 ≤ min (A.lo x) (B.lo x) ∧ min (A.lo x) (B.lo x) ≤ max (A.hi x) (B.hi x) ∧ max (A.hi x) (B.hi x) ≤ 2147483647
    omega
theorem frm_up {n x : Nat} {m : oc_M} (hx : x < n) (hu : ∀ i, i < 2 * n → i / 2 ≠ x → m i (oc_b i) ≤ 2 * gI (oc_b i)) (ho : ∀ i j, i < 2 * n → j < 2 * n → i ≠ j → i / 2 ≠ x → j / 2 ≠ x → m i j ≤ gI j + gI (oc_b i)) {i j : Nat} (hi : i < 2 * n) (hj : j < 2 * n) (hij : i ≠ j) : a_frm x m i j ≤ gI j + gI (oc_b i) := by
  unfold a_frm
  have bi := oc_bh i
  have bj := oc_bh j
  split
  · next c =>
    split
    · next c2 =>
      have : j = oc_b i := by
        have := oc_b_eq i
        omega
      rw [this]; omega
    · next c2 =>
      split
      · next c3 =>
        have := hu (oc_b j) (oc_bl hj) (by omega)
        rw [oc_bb] at this
        omega
      · next c3 =>
        have := hu i hi c3
        omega
  · next c => exact ho i j hi hj hij (by omega) (by omega)
theorem ab_T.hT {A : ab} (h : ab_T A) {x : Nat} (hx : x < A.n) : ∀ i j, i < 2 * A.n → j < 2 * A.n → i / 2 ≠ x → j / 2 ≠ x → (i = j → A.m i j = 0) ∧ A.m i j = A.m (oc_b j) (oc_b i) ∧ A.m i (oc_b i) % 2 = 0 ∧ 2 * A.m i j ≤ A.m i (oc_b i) + A.m (oc_b j) j ∧ 0 ≤ A.m i (oc_b i) + A.m (oc_b i) i ∧ ∀ k, k < 2 * A.n → k / 2 ≠ x → A.m i j ≤ A.m i k + A.m k j := by
  intro i j hi hj _ _
  refine ⟨fun e => by rw [e]; exact h.t.1.1 j hj, h.t.1.2 i j hi hj, h.t.2.2.1 i hi, h.t.2.2.2 i j hi hj, oc_T_cyc h.t hi (oc_bl hi), fun k hk _ => h.t.2.1 k hk i j hi hj⟩
theorem ab_T.un {A : ab} (h : ab_T A) {i : Nat} (hi : i < 2 * A.n) : A.m i (oc_b i) ≤ 2 * gI (oc_b i) := by
  have := h.up i (oc_b i) hi (oc_bl hi) (fun e => oc_bn i e.symm)
  omega
theorem T_free {A : ab} {x : Nat} (h : ab_T A) (hx : x < A.n) : ab_T (a_free x A) := by
  refine ⟨h.n12, h.a6, a_free_T hx (h.hT hx), fun i j hi hj hij => ?_, h.e⟩
  exact frm_up hx (fun i hi _ => h.un hi) (fun i j hi hj hij _ _ => h.up i j hi hj hij) hi hj hij
theorem T_add {A : ab} (h : ab_T A) (hn : A.n < 12) : ab_T (a_add A) := by
  refine ⟨by show A.n + 1 ≤ 12; omega, h.a6, ?_, fun i j hi hj hij => ?_, h.e⟩
  · refine a_free_T (n := A.n + 1) (x := A.n) (by omega) (fun i j hi hj ci cj => ?_)
    refine ⟨fun e => by rw [e]; exact h.t.1.1 j (by omega), h.t.1.2 i j (by omega) (by omega), h.t.2.2.1 i (by omega), h.t.2.2.2 i j (by omega) (by omega), oc_T_cyc h.t (by omega) (oc_bl (by omega)), fun k hk ck => h.t.2.1 k (by omega) i j (by omega) (by omega)⟩
  · have hi : i < 2 * (A.n + 1) := hi
    have hj : j < 2 * (A.n + 1) := hj
    exact frm_up (n := A.n + 1) (by omega) (fun i hi c => h.un (by omega)) (fun i j hi hj hij ci cj => h.up i j (by omega) (by omega) hij) hi hj hij
/-- closed, with bounds of each number within the ints -/
theorem a_cl_T2 {A B : ab} (h : a_cl A = some B) (hn : A.n ≤ 12) (ha : A.a ≤ 6) (hu : ∀ i, i < 2 * A.n → A.m i (oc_b i) ≤ 2 * gI (oc_b i)) (he : ∀ x, x < A.a → -2147483648 ≤ A.lo x ∧ A.lo x ≤ A.hi x ∧ A.hi x ≤ 2147483647) : ab_T B ∧ B.n = A.n ∧ B.a = A.a ∧ B.lo = A.lo ∧ B.hi = A.hi ∧ B.rm = A.rm ∧ oc_G A.n A.m B.m := by
  by_cases e : ∃ t, oc_G A.n A.m t
  · obtain ⟨t, ht⟩ := e
    obtain ⟨C, h1, h2, h3, h4, h5, h6, h7, h8⟩ := a_cl_some ht
    rw [h] at h1
    cases h1
    refine ⟨⟨by omega, by omega, by rw [h2]; exact h7.1, fun i j hi hj hij => ?_, fun x hx => ?_⟩, h2, h3, h4, h5, h6, h7⟩
    · rw [h2] at hi hj
      have s := h7.1.2.2.2 i j hi hj
      have a := h7.2.1 i (oc_b i) hi (oc_bl hi)
      have b := h7.2.1 (oc_b j) j (oc_bl hj) hj
      have a' := hu i hi
      have b' := hu (oc_b j) (oc_bl hj)
      rw [oc_bb] at b'
      omega
    · rw [h4, h5]; exact he x (by omega)
  · unfold a_cl at h
    rw [dif_neg e] at h
    cases h
/-- the greatest of all -/
def a_top : oc_M := fun i j => if i = j then 0 else gI j + gI (oc_b i)
theorem top_T (n : Nat) : oc_T n a_top := by
  have binj : ∀ i j, oc_b j = oc_b i ↔ i = j := fun i j => ⟨fun z => by rw [← oc_bb i, ← z, oc_bb], fun z => by rw [z]⟩
  unfold a_top
  refine ⟨⟨fun i hi => if_pos rfl, fun i j hi hj => ?_⟩, fun k hk i j hi hj => ?_, fun i hi => ?_, fun i j hi hj => ?_⟩
  · show (if i = j then _ else _) = (if oc_b j = oc_b i then _ else _)
    by_cases c : i = j
    · rw [if_pos c, if_pos ((binj i j).mpr c)]
    · rw [if_neg c, if_neg (fun z => c ((binj i j).mp z)), oc_bb]; omega
  · show (if i = j then (0 : Int) else _) ≤ (if i = k then 0 else _) + (if k = j then 0 else _)
    have r1 := gI_r j
    have r2 := gI_r (oc_b i)
    have r3 := gI_r k
    have r4 := gI_r (oc_b k)
    by_cases c1 : i = k
    · subst c1; rw [if_pos (rfl : i = i)]; omega
    · by_cases c2 : k = j
      · subst c2; rw [if_pos (rfl : k = k)]; omega
      · rw [if_neg c1, if_neg c2]
        split <;> omega
  · show (if i = oc_b i then (0 : Int) else gI (oc_b i) + gI (oc_b i)) % 2 = 0
    rw [if_neg (fun z => oc_bn i z.symm)]; omega
  · show 2 * (if i = j then (0 : Int) else _) ≤ (if i = oc_b i then 0 else gI (oc_b i) + gI (oc_b i)) + (if oc_b j = j then 0 else gI j + gI (oc_b (oc_b j)))
    rw [if_neg (show ¬ i = oc_b i from fun z => oc_bn i z.symm), if_neg (show ¬ oc_b j = j from oc_bn j), oc_bb]
    have r1 := gI_r j
    have r2 := gI_r (oc_b i)
    split <;> omega
theorem sl_all : ∀ n, n ≤ 12 → (1 : Int32) <<< (Int32.ofNat n &&& 31) - 1 = Int32.ofNat (2 ^ n - 1) := by decide +kernel
/-- loosenAll -/
theorem l_148 {d : Nat} {h : mh_H} {o : Nat} {A : ab} (R : Nat) (r : RS h o (some A)) (hC : oc_C A.n A.m) (hu : ∀ i j, i < 2 * A.n → j < 2 * A.n → i ≠ j → A.m i j ≤ gI j + gI (oc_b i)) : ∃ h', fq (sW o R) h h' ∧ RL h' o A a_top (2 ^ A.n - 1) ∧ ∀ Q, mcall d 148 [.ref o] h Q = Q none h' := by
  obtain ⟨r, r5⟩ := r
  have n12 := r.n12
  refine ⟨mh_si h o 5 (Int32.ofNat (2 ^ A.n - 1)), fq_si (Or.inl rfl), ⟨?_, ?_, ?_, top_T A.n, fun i j hi hj => ?_, hC, fun i j hi hj _ => ?_⟩, fun Q => ?_⟩
  · refine ⟨r.s, ?_, ?_, r.n12, ?_, r.a6, r.m, r.e⟩
    · rw [hi_si, if_neg (by omega)]; exact r.z
    · rw [hi_si, if_neg (by omega)]; exact r.n
    · rw [hi_si, if_neg (by omega)]; exact r.a
  · rw [hi_si, if_pos ⟨rfl, rfl⟩]
  · have := Nat.two_pow_pos A.n
    omega
  · show _ ≤ if i = j then (0 : Int) else gI j + gI (oc_b i)
    by_cases c : i = j
    · rw [if_pos c, c, hC.1 j hj]; exact Int.le_refl _
    · rw [if_neg c]; exact hu i j hi hj c
  · rw [Nat.testBit_two_pow_sub_one, Nat.testBit_two_pow_sub_one]
    exact ⟨decide_eq_true (by omega), decide_eq_true (by omega)⟩
  · have s1 := r.s.1
    have en := r.n
    have e := sl_all A.n n12
    simp only [s_148_0, s_148_1, s_148_2, s_148_3, s_148_6, s_148_7, s_148_8, s_148_9, s_148_12, e_148, mv_i_1, mv_l_1, mv_a_1, mv_a_2, mv_a_3, mk2_n, mk2_i, mk2_l, mk2_a, mk2_u, mk2_x, mB_T, mB_F, mS_cons, mS_nil, mSB_T, mSB_F, mca_nil, mca_i, mca_l, mca_r, mca_u, mca_x, mcat_i, mcat_l, mcat_r, mcat_u, mcat_x, mK_some, mK_none, va_rf_s, va_rf_n, lgc_eq, lgc_lt, lgc_gt, lgc_ge, lgc_le, mrd_104, mrd_105, mrd_106, mrd_107, true_and, and_true, and_self, false_and, and_false, true_or, or_true, false_or, or_false, not_true_eq_false, not_false_eq_true, mgb, mga, mgr, mN, reduceCtorEq, ↓reduceIte, eq_self, ge_iff_le, gt_iff_lt, hk_si, hk_sj, hk_sr, hl_si, hl_sj, hl_sr, hn_si, hn_sj, hn_sr, hs_si, hs_sj, hs_sr, hi_sj, hi_sr, hj_si, hj_sr, hr_si, hr_sj, hi_si, hj_sj, hr_sr, mg_si, mg_sj, mg_sr, s1, en, e]
