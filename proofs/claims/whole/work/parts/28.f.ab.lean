set_option maxRecDepth 100000
/-! State's other operations over what is known -/
theorem oc_bi {i j : Nat} : oc_b i = oc_b j ↔ i = j := ⟨fun z => by rw [← oc_bb i, z, oc_bb], fun z => by rw [z]⟩
theorem oc_e2 {i s : Nat} (h : i / 2 = s) : i = 2 * s ∨ i = 2 * s + 1 := by omega
theorem sh_V_at {s n i j : Nat} (hn : n ≤ 12) (hs : s < n) (hi : i < 2 * n) (hj : j < 2 * n) : sh_V s n (sc i j) = true ↔ (i / 2 = s ∨ j / 2 = s) ∧ i ≠ j := by
  have bi := oc_bh i
  have bj := oc_bh j
  have bni := oc_bn i
  have bni' := oc_b_eq i
  have bnj' := oc_b_eq j
  unfold sh_V sh_U
  simp only [Bool.or_eq_true, List.any_eq_true, Bool.and_eq_true, decide_eq_true_eq, beq_iff_eq, List.mem_range]
  constructor
  · rintro ((⟨j', h1, h2, h3 | h3⟩ | h3) | h3)
    · rcases sc_inj (by omega) (by omega) (by omega) (by omega) h3 with ⟨a, b⟩ | ⟨a, b⟩
      · omega
      · have := oc_bh j'; rw [oc_be] at b; omega
    · rcases sc_inj (by omega) (by omega) (by omega) (by omega) h3 with ⟨a, b⟩ | ⟨a, b⟩
      · omega
      · have := oc_bh j'; rw [oc_bo] at b; omega
    · rcases sc_inj (by omega) (by omega) (by omega) (by omega) h3 with ⟨a, b⟩ | ⟨a, b⟩
      · omega
      · rw [oc_be] at b; rw [oc_bo] at a; omega
    · rcases sc_inj (by omega) (by omega) (by omega) (by omega) h3 with ⟨a, b⟩ | ⟨a, b⟩
      · omega
      · rw [oc_bo] at b; rw [oc_be] at a; omega
  · rintro ⟨h1, h2⟩
    by_cases ci : i / 2 = s
    · by_cases cj : j / 2 = s
      · rcases oc_e2 ci with e1 | e1 <;> rcases oc_e2 cj with e2 | e2
        · omega
        · left; right; rw [e1, e2]
        · right; rw [e1, e2]
        · omega
      · left; left
        refine ⟨j, by omega, cj, ?_⟩
        rcases oc_e2 ci with e1 | e1
        · left; rw [e1]
        · right; rw [e1]
    · have cj : j / 2 = s := by omega
      left; left
      refine ⟨oc_b i, oc_bl hi, by omega, ?_⟩
      have t := sc_turn (i := i) (j := j) (by omega)
      rcases oc_e2 cj with e2 | e2
      · right; rw [← t, e2, oc_be]
      · left; rw [← t, e2, oc_bo]
theorem ub_V_at {s n i j : Nat} (hn : n ≤ 12) (hs : s < n) (hi : i < 2 * n) (hj : j < 2 * n) : ub_V s n (sc i j) = true ↔ (i / 2 = s ∨ j / 2 = s) := by
  constructor
  · intro h
    by_cases c : i / 2 = s ∨ j / 2 = s
    · exact c
    · unfold ub_V at h
      rw [ub_U_f (by omega) (by omega) (by omega) (by omega) (by omega) (by omega) (by omega), ub_U_f (by omega) (by omega) (by omega) (by omega) (by omega) (by omega) (by omega)] at h
      exact absurd h (by decide)
  · intro h
    have bi := oc_bh i
    have bj := oc_bh j
    unfold ub_V ub_U
    simp only [Bool.or_eq_true, List.any_eq_true, Bool.and_eq_true, decide_eq_true_eq, beq_iff_eq, List.mem_range]
    by_cases ci : i / 2 = s
    · by_cases cj : j / 2 = s
      · rcases oc_e2 ci with e1 | e1 <;> rcases oc_e2 cj with e2 | e2
        · left; left; left; rw [e1, e2]
        · left; left; right; rw [e1, e2, oc_be]
        · right; left; right; rw [e1, e2, oc_bo]
        · right; left; left; rw [e1, e2]
      · rcases oc_e2 ci with e1 | e1
        · left; right; exact ⟨j, hj, cj, by rw [e1]⟩
        · right; right; exact ⟨j, hj, cj, by rw [e1]⟩
    · have cj : j / 2 = s := by omega
      have t := sc_turn (i := i) (j := j) (by omega)
      rcases oc_e2 cj with e2 | e2
      · right; right; exact ⟨oc_b i, oc_bl hi, by omega, by rw [← t, e2, oc_be]⟩
      · left; right; exact ⟨oc_b i, oc_bl hi, by omega, by rw [← t, e2, oc_bo]⟩
/-- a row of bounds is written anew: what stands for what then -/
theorem RM_J {h : mh_H} {o : Nat} {A B : ab} {g : Nat → Int64} (r : RM h o A) (hn : B.n = A.n) (ha : B.a = A.a) (hl : ∀ x, B.lo x = A.lo x) (hh : ∀ x, B.hi x = A.hi x) (hm : ∀ i j, i < 2 * A.n → j < 2 * A.n → (g (sc i j)).toInt = B.m i j) : RM (mh_J h (o + 1) g) o B := by
  refine ⟨r.s, r.z, by rw [hn]; exact r.n, by rw [hn]; exact r.n12, by rw [ha]; exact r.a, by rw [ha]; exact r.a6, fun i j hi hj => ?_, fun x hx => ?_⟩
  · unfold smx
    rw [hj_J, if_pos rfl]
    exact hm i j (by omega) (by omega)
  · rw [hj_J, if_neg (by omega), hj_J, if_neg (by omega), hl, hh]
    exact r.e x (by omega)
theorem i64_2 {x : Int64} (h : -4611686018427387904 ≤ x.toInt) (h2 : x.toInt ≤ 4611686018427387903) : (2 * x).toInt = 2 * x.toInt := by
  rw [Int64.toInt_mul, show (2 : Int64).toInt = 2 from rfl]
  exact Int.bmod_eq_of_le (by omega) (by omega)
theorem i64_n {x : Int64} (h : -9223372036854775807 ≤ x.toInt) : (-x).toInt = -x.toInt := by
  have := Int64.le_toInt x
  have := Int64.toInt_lt x
  rw [Int64.toInt_neg]
  exact Int.bmod_eq_of_le (by omega) (by omega)
section SM
variable {d : Nat} {h : mh_H} {o p R : Nat} {A B : ab}
theorem l_156 (R : Nat) {s : Nat} (r : RS h o (some A)) (hd : ∀ i, i < 2 * A.n → A.m i i = 0) (hs : s < A.n) : ∃ h', fq (sW o R) h h' ∧ RS h' o (some (a_turn s A)) ∧ ∀ Q, mcall (d + 1) 156 [.ref o, .int (Int32.ofNat s)] h Q = Q none h' := by
  obtain ⟨r, r5⟩ := r
  have n12 := r.n12
  refine ⟨_, ?f, ?r, fun Q => c_156 r.s r.n r.n12 hs⟩
  case f => exact fq_J (Or.inr (Or.inl rfl))
  case r =>
    refine ⟨RM_J r rfl rfl (fun _ => rfl) (fun _ => rfl) (fun i j hi hj => ?_), r5⟩
    have hl : ∀ i, i < 2 * A.n → ng_t s i < 2 * A.n := fun i hi => by unfold ng_t; split; exact oc_bl hi; exact hi
    show _ = A.m (ng_t s i) (ng_t s j)
    unfold sw
    split
    · rw [← r.m _ _ (hl i hi) (hl j hj)]
      unfold smx
      rw [ng_f_at (by omega) (by omega)]
    · next c =>
      have c' := mt (sh_V_at n12 hs hi hj).mpr c
      by_cases ij : i = j
      · subst ij
        rw [hd _ (hl i hi), ← hd i hi, ← r.m _ _ hi hi]; rfl
      · have ci : ¬ i / 2 = s := fun z => c' ⟨Or.inl z, ij⟩
        have cj : ¬ j / 2 = s := fun z => c' ⟨Or.inr z, ij⟩
        unfold ng_t
        rw [if_neg ci, if_neg cj, ← r.m _ _ hi hj]; rfl
theorem l_155m {s : Nat} {X : mh_H} {B : ab} (r : RM X o B) (hs : s < B.n) (he : ∀ i, i < 2 * B.n → i / 2 ≠ s → B.m i (oc_b i) % 2 = 0 ∧ -4294967296 ≤ B.m i (oc_b i) ∧ B.m i (oc_b i) ≤ 4294967296) : RM (mh_J X (o + 1) (sw (ub_V s B.n) (ub_f s (mh_j X (o + 1))) (mh_j X (o + 1)))) o (a_free s B) := by
  have n12 := r.n12
  refine RM_J r rfl rfl (fun _ => rfl) (fun _ => rfl) (fun i j hi hj => ?_)
  have hg : ∀ v, 2147483647 ≤ (sg v).toInt ∧ (sg v).toInt ≤ 2147483648 := fun v => by rw [gI_sg]; exact gI_r v
  have ha : ∀ v, v < 2 * B.n → v / 2 ≠ s → (au_h (mh_j X (o + 1)) v).toInt = B.m (oc_b v) v / 2 ∧ -2147483648 ≤ (au_h (mh_j X (o + 1)) v).toInt ∧ (au_h (mh_j X (o + 1)) v).toInt ≤ 2147483648 := fun v hv hvs => by
    have e := he (oc_b v) (oc_bl hv) (by rw [oc_bh]; exact hvs)
    rw [oc_bb] at e
    have e2 : (mh_j X (o + 1) (sc (oc_b v) v)).toInt = B.m (oc_b v) v := r.m _ _ (oc_bl hv) hv
    have e3 : (au_h (mh_j X (o + 1)) v).toInt = B.m (oc_b v) v / 2 := by
      unfold au_h
      rw [half_int, e2]
      rw [e2]; exact e.1
    rw [e3]
    omega
  show _ = a_frm s B.m i j
  unfold sw
  split
  · next c =>
    have c' := (ub_V_at n12 hs hi hj).mp c
    rw [ub_f_at (by omega) (by omega) c']
    unfold ub_m a_frm
    rw [if_pos c']
    by_cases e1 : i = j
    · rw [if_pos e1, if_pos e1]; rfl
    · rw [if_neg e1, if_neg e1]
      by_cases e2 : i / 2 = j / 2
      · rw [if_pos e2, if_pos e2, i64_2, gI_sg] <;> (have := hg (oc_b i); omega)
      · rw [if_neg e2, if_neg e2]
        by_cases e3 : i / 2 = s
        · have a := ha j hj (by omega)
          have b := hg (oc_b i)
          rw [if_pos e3, if_pos e3, ladd_int (by omega) (by omega), gI_sg, a.1]
        · have a := ha (oc_b i) (oc_bl hi) (by rw [oc_bh]; exact e3)
          have b := hg j
          rw [if_neg e3, if_neg e3, ladd_int (by omega) (by omega), gI_sg, a.1, oc_bb]
  · next c =>
    have c' := mt (ub_V_at n12 hs hi hj).mpr c
    unfold a_frm
    rw [if_neg c', ← r.m _ _ hi hj]; rfl
theorem ab_T.ev {A : ab} (hT : ab_T A) {i : Nat} (hi : i < 2 * A.n) : A.m i (oc_b i) % 2 = 0 ∧ -4294967296 ≤ A.m i (oc_b i) ∧ A.m i (oc_b i) ≤ 4294967296 := by
  have := hT.lo2 hi (oc_bl hi)
  exact ⟨hT.t.2.2.1 i hi, this.1, this.2⟩
theorem l_155 (R : Nat) {s : Nat} (r : RS h o (some A)) (hT : ab_T A) (hs : s < A.n) : ∃ h', fq (sW o R) h h' ∧ RS h' o (some (a_free s A)) ∧ ∀ Q, mcall (d + 1) 155 [.ref o, .int (Int32.ofNat s)] h Q = Q none h' := by
  obtain ⟨r, r5⟩ := r
  refine ⟨_, ?f, ?r, fun Q => c_155 r.s r.n r.n12 hs⟩
  case f => exact fq_J (Or.inr (Or.inl rfl))
  case r => exact ⟨l_155m r hs (fun i hi _ => hT.ev hi), r5⟩
theorem l_153 (R : Nat) (r : RS h o (some A)) (hT : ab_T A) (hn : A.n < 12) : ∃ h', fq (sW o R) h h' ∧ RS h' o (some (a_add A)) ∧ ∀ Q, mcall (d + 2) 153 [.ref o] h Q = Q none h' := by
  obtain ⟨r, r5⟩ := r
  refine ⟨_, ?f, ?r, fun Q => c_153 r.s r.n hn⟩
  case f => exact fq_t (fq_si (Or.inl rfl)) (fq_J (Or.inr (Or.inl rfl)))
  case r =>
    refine ⟨?_, by rw [hi_J, hi_si, if_neg (by omega)]; exact r5⟩
    obtain ⟨r1, r2, r3, r4, r5', r6, r7, r8⟩ := r
    -- the new slot's own bounds are written over
    obtain ⟨M, hM⟩ : ∃ M : oc_M, ∀ i j, M i j = smx (mh_j h (o + 1)) i j := ⟨_, fun _ _ => rfl⟩
    have rm : RM (mh_si h o 1 (Int32.ofNat (A.n + 1))) o (ab_mk (A.n + 1) A.a (M) A.lo A.hi A.rm) := by
      refine ⟨r1, ?_, ?_, by show A.n + 1 ≤ 12; omega, ?_, r6, fun i j hi hj => ?_, fun x hx => r8 x hx⟩
      · rw [hi_si, if_neg (by omega)]; exact r2
      · rw [hi_si, if_pos ⟨rfl, rfl⟩]; rfl
      · rw [hi_si, if_neg (by omega)]; exact r5'
      · show _ = M i j
        rw [hM]; rfl
    have hMm : ∀ i j, i < 2 * A.n → j < 2 * A.n → M i j = A.m i j := fun i j hi hj => by rw [hM]; exact r7 i j hi hj
    have t := l_155m (s := A.n) rm (by show A.n < A.n + 1; omega) (fun i hi c => by
      have hi : i < 2 * (A.n + 1) := hi
      show M i (oc_b i) % 2 = 0 ∧ -4294967296 ≤ M i (oc_b i) ∧ M i (oc_b i) ≤ 4294967296
      rw [hMm i (oc_b i) (by omega) (oc_bl (by omega))]
      exact hT.ev (by omega))
    refine ⟨t.s, t.z, t.n, t.n12, t.a, t.a6, fun i j hi hj => ?_, t.e⟩
    have hi' : i < 2 * (A.n + 1) := hi
    have hj' : j < 2 * (A.n + 1) := hj
    have q := t.m i j hi hj
    refine q.trans ?_
    show a_frm A.n M i j = a_frm A.n A.m i j
    unfold a_frm
    by_cases c : i / 2 = A.n ∨ j / 2 = A.n
    · rw [if_pos c, if_pos c]
      by_cases e1 : i = j
      · rw [if_pos e1, if_pos e1]
      · rw [if_neg e1, if_neg e1]
        by_cases e2 : i / 2 = j / 2
        · rw [if_pos e2, if_pos e2]
        · rw [if_neg e2, if_neg e2]
          by_cases e3 : i / 2 = A.n
          · rw [if_pos e3, if_pos e3, hMm _ _ (oc_bl (by omega)) (by omega)]
          · rw [if_neg e3, if_neg e3, hMm _ _ (by omega) (oc_bl (by omega))]
    · rw [if_neg c, if_neg c, hMm _ _ (by omega) (by omega)]
/-- it moves by l .. u, where no bound gets too far -/
theorem l_158 (R : Nat) {s : Nat} {l u : Int64} (r : RS h o (some A)) (hs : s < A.n) (hl : -70368744177664 ≤ l.toInt ∧ l.toInt ≤ 70368744177664) (hu : -70368744177664 ≤ u.toInt ∧ u.toInt ≤ 70368744177664) (hb : ∀ i j, i < 2 * A.n → j < 2 * A.n → -4294967296 ≤ A.m i j ∧ A.m i j ≤ 4294967296) : ∃ h', fq (sW o R) h h' ∧ RS h' o (some (a_shift s l.toInt u.toInt A)) ∧ ∀ Q, mcall (d + 1) 158 [.ref o, .int (Int32.ofNat s), .long l, .long u] h Q = Q none h' := by
  obtain ⟨r, r5⟩ := r
  have n12 := r.n12
  refine ⟨_, ?f, ?r, fun Q => c_158 r.s r.n r.n12 hs⟩
  case f => exact fq_J (Or.inr (Or.inl rfl))
  case r =>
    refine ⟨RM_J r rfl rfl (fun _ => rfl) (fun _ => rfl) (fun i j hi hj => ?_), r5⟩
    have b := hb i j hi hj
    have e : (mh_j h (o + 1) (sc i j)).toInt = A.m i j := r.m i j hi hj
    have sa : ∀ v, (sh_a s l u v).toInt = a_sa s l.toInt u.toInt v ∧ -70368744177664 ≤ (sh_a s l u v).toInt ∧ (sh_a s l u v).toInt ≤ 70368744177664 := fun v => by
      unfold sh_a a_sa
      split
      · rw [i64_n (by omega)]; omega
      · split
        · omega
        · exact ⟨rfl, by decide, by decide⟩
    show _ = A.m i j + _
    unfold sw
    split
    · next c =>
      have c' := (sh_V_at n12 hs hi hj).mp c
      rw [sh_f_at (by omega) (by omega)]
      unfold sh_d
      rw [if_neg c'.2, if_neg c'.2]
      have a1 := sa i
      have a2 := sa (oc_b j)
      have a3 : (sh_a s l u i + sh_a s l u (oc_b j)).toInt = (sh_a s l u i).toInt + (sh_a s l u (oc_b j)).toInt := ladd_int (by omega) (by omega)
      rw [ladd_int (by omega) (by omega), a3, a1.1, a2.1, e]
    · next c =>
      have c' := mt (sh_V_at n12 hs hi hj).mpr c
      rw [e]
      by_cases ij : i = j
      · rw [if_pos ij]; omega
      · have ci : ¬ i / 2 = s := fun z => c' ⟨Or.inl z, ij⟩
        have cj : ¬ j / 2 = s := fun z => c' ⟨Or.inr z, ij⟩
        rw [if_neg ij, a_sa_b]
        unfold a_sa
        rw [if_neg (by omega), if_neg (by omega), if_neg (by omega), if_neg (by omega)]; omega
/-- join -/
theorem l_151 (R : Nat) (r : RS h o (some A)) (q : RS h p (some B)) (hop : o ≠ p) (hn : A.n = B.n) (ha : A.a = B.a) : ∃ h', fq (sW o R) h h' ∧ RS h' o (some (a_join A B)) ∧ ∀ Q, mcall (d + 2) 151 [.ref o, .ref p] h Q = Q none h' := by
  obtain ⟨r, r5⟩ := r
  obtain ⟨q, q5⟩ := q
  have n12 := r.n12
  refine ⟨_, ?f, ?r, fun Q => c_151 r.s q.s hop r.n r.n12 r.a r.a6 r.z q.z⟩
  case f => exact fq_t (fq_J (Or.inr (Or.inl rfl))) (fq_J (Or.inr (Or.inr (Or.inl rfl))))
  case r =>
    refine ⟨⟨r.s, r.z, r.n, r.n12, r.a, r.a6, fun i j hi hj => ?_, fun x hx => ?_⟩, r5⟩
    · have hi : i < 2 * A.n := hi
      have hj : j < 2 * A.n := hj
      show _ = max (A.m i j) (B.m i j)
      rw [← r.m i j hi hj, ← q.m i j (by omega) (by omega)]
      unfold smx
      rw [hj_J, if_neg (by omega), hj_J, if_pos rfl]
      unfold sj_m
      rw [if_pos (sc_n_all A.n n12 i (by omega) j (by omega) hi hj)]
      split
      · next c => rw [Int64.lt_iff_toInt_lt] at c; omega
      · next c => rw [Int64.lt_iff_toInt_lt] at c; omega
    · have hx : x < A.a := hx
      show _ = min (A.lo x) (B.lo x) ∧ _ = max (A.hi x) (B.hi x)
      have e1 := r.e x hx
      have e2 := q.e x (by omega)
      rw [hj_J, if_pos rfl, hj_J, if_pos rfl]
      have h1 : 2 * x < 2 * A.a := by omega
      have h2 : 2 * x % 2 = 0 := by omega
      have h3 : 2 * x + 1 < 2 * A.a := by omega
      have h4 : ¬ (2 * x + 1) % 2 = 0 := by omega
      unfold sj_e
      simp only [h1, h2, h3, h4, if_true, if_false]
      constructor
      · split
        · next c => rw [Int64.lt_iff_toInt_lt] at c; omega
        · next c => rw [Int64.lt_iff_toInt_lt] at c; omega
      · split
        · next c => rw [Int64.lt_iff_toInt_lt] at c; omega
        · next c => rw [Int64.lt_iff_toInt_lt] at c; omega
theorem l_151m (R : Nat) {A : Option ab} (r : RS h o A) (q : RS h p none) : ∃ h', fq (sW o R) h h' ∧ RS h' o A ∧ ∀ Q, mcall (d + 2) 151 [.ref o, .ref p] h Q = Q none h' := by
  refine ⟨h, fq_id, r, fun Q => ?_⟩
  have s2 := q.1.s.1
  have z2 := q.1.z
  have e : ((1 : Int32) = 0) = False := by decide
  simp only [s_151_0, s_151_1, s_151_4, s_151_7, s_151_8, s_151_9, s_151_12, s_151_15, s_151_16, s_151_17, s_151_20, s_151_21, s_151_22, s_151_23, s_151_24, s_151_25, s_151_28, s_151_31, s_151_32, s_151_35, s_151_36, s_151_37, s_151_40, s_151_41, s_151_42, s_151_43, s_151_46, s_151_47, s_151_48, s_151_51, s_151_52, s_151_55, s_151_58, s_151_59, s_151_60, s_151_61, s_151_62, s_151_65, s_151_68, s_151_69, s_151_72, s_151_73, s_151_74, s_151_75, s_151_76, s_151_79, s_151_80, s_151_81, s_151_82, s_151_83, s_151_84, s_151_87, s_151_88, s_151_89, s_151_90, s_151_91, s_151_94, s_151_95, s_151_96, s_151_99, s_151_100, s_151_101, s_151_102, s_151_103, s_151_104, s_151_105, s_151_108, s_151_109, s_151_110, s_151_111, s_151_112, s_151_113, s_151_114, s_151_115, s_151_118, s_151_119, s_151_120, s_151_121, s_151_122, s_151_123, s_151_124, s_151_127, s_151_128, s_151_131, s_151_134, e_151, mv_i_1, mv_l_1, mv_a_1, mv_a_2, mv_a_3, mk2_n, mk2_i, mk2_l, mk2_a, mk2_u, mk2_x, mB_T, mB_F, mS_cons, mS_nil, mSB_T, mSB_F, mca_nil, mca_i, mca_l, mca_r, mca_u, mca_x, mcat_i, mcat_l, mcat_r, mcat_u, mcat_x, mK_some, mK_none, va_rf_s, va_rf_n, lgc_eq, lgc_lt, lgc_gt, lgc_ge, lgc_le, mrd_104, mrd_105, mrd_106, mrd_107, true_and, and_true, and_self, false_and, and_false, true_or, or_true, false_or, or_false, not_true_eq_false, not_false_eq_true, mgb, mga, mgr, mN, reduceCtorEq, ↓reduceIte, eq_self, ge_iff_le, gt_iff_lt, s2, z2, e]
theorem l_151n (R : Nat) (r : RS h o none) (q : RS h p (some B)) (hop : o ≠ p) : ∃ h', fq (sW o R) h h' ∧ RS h' o (some B) ∧ ∀ Q, mcall (d + 2) 151 [.ref o, .ref p] h Q = Q none h' := by
  obtain ⟨h', f, rr, cc⟩ := l_144 (d := d) R r.1.s q hop
  refine ⟨h', f, rr, fun Q => ?_⟩
  have s1 := r.1.s.1
  have z1 := r.1.z
  have s2 := q.1.s.1
  have z2 := q.1.z
  have e : ((1 : Int32) = 0) = False := by decide
  simp only [s_151_0, s_151_1, s_151_4, s_151_7, s_151_8, s_151_9, s_151_12, s_151_15, s_151_16, s_151_17, s_151_20, s_151_21, s_151_22, s_151_23, s_151_24, s_151_25, s_151_28, s_151_31, s_151_32, s_151_35, s_151_36, s_151_37, s_151_40, s_151_41, s_151_42, s_151_43, s_151_46, s_151_47, s_151_48, s_151_51, s_151_52, s_151_55, s_151_58, s_151_59, s_151_60, s_151_61, s_151_62, s_151_65, s_151_68, s_151_69, s_151_72, s_151_73, s_151_74, s_151_75, s_151_76, s_151_79, s_151_80, s_151_81, s_151_82, s_151_83, s_151_84, s_151_87, s_151_88, s_151_89, s_151_90, s_151_91, s_151_94, s_151_95, s_151_96, s_151_99, s_151_100, s_151_101, s_151_102, s_151_103, s_151_104, s_151_105, s_151_108, s_151_109, s_151_110, s_151_111, s_151_112, s_151_113, s_151_114, s_151_115, s_151_118, s_151_119, s_151_120, s_151_121, s_151_122, s_151_123, s_151_124, s_151_127, s_151_128, s_151_131, s_151_134, e_151, mv_i_1, mv_l_1, mv_a_1, mv_a_2, mv_a_3, mk2_n, mk2_i, mk2_l, mk2_a, mk2_u, mk2_x, mB_T, mB_F, mS_cons, mS_nil, mSB_T, mSB_F, mca_nil, mca_i, mca_l, mca_r, mca_u, mca_x, mcat_i, mcat_l, mcat_r, mcat_u, mcat_x, mK_some, mK_none, va_rf_s, va_rf_n, lgc_eq, lgc_lt, lgc_gt, lgc_ge, lgc_le, mrd_104, mrd_105, mrd_106, mrd_107, true_and, and_true, and_self, false_and, and_false, true_or, or_true, false_or, or_false, not_true_eq_false, not_false_eq_true, mgb, mga, mgr, mN, reduceCtorEq, ↓reduceIte, eq_self, ge_iff_le, gt_iff_lt, s1, z1, s2, z2, e, cc]
theorem l_151o (R : Nat) {A B : Option ab} (r : RS h o A) (q : RS h p B) (hop : o ≠ p) (hn : ∀ A' B', A = some A' → B = some B' → A'.n = B'.n ∧ A'.a = B'.a) : ∃ h', fq (sW o R) h h' ∧ RS h' o (o_join A B) ∧ ∀ Q, mcall (d + 2) 151 [.ref o, .ref p] h Q = Q none h' := by
  cases B with
  | none =>
    have e : o_join A none = A := by cases A <;> rfl
    rw [e]; exact l_151m R r q
  | some B =>
    cases A with
    | none => exact l_151n R r q hop
    | some A => exact l_151 R r q hop (hn A B rfl rfl).1 (hn A B rfl rfl).2
/-- widen -/
theorem l_152 (R : Nat) (r : RS h o (some A)) (q : RS h p (some B)) (hop : o ≠ p) (hn : A.n = B.n) (ha : A.a = B.a) : ∃ h', fq (sW o R) h h' ∧ RS h' o (some (a_wid A B)) ∧ ∀ Q, mcall (d + 1) 152 [.ref o, .ref p] h Q = Q none h' := by
  obtain ⟨r, r5⟩ := r
  obtain ⟨q, q5⟩ := q
  have n12 := r.n12
  refine ⟨_, ?f, ?r, fun Q => c_152 r.s q.s hop r.n r.n12 r.a r.a6⟩
  case f => exact fq_t (fq_J (Or.inr (Or.inl rfl))) (fq_J (Or.inr (Or.inr (Or.inl rfl))))
  case r =>
    refine ⟨⟨r.s, r.z, r.n, r.n12, r.a, r.a6, fun i j hi hj => ?_, fun x hx => ?_⟩, r5⟩
    · have hi : i < 2 * A.n := hi
      have hj : j < 2 * A.n := hj
      show _ = if A.m i j < B.m i j then gI j + gI (oc_b i) else A.m i j
      rw [← r.m i j hi hj, ← q.m i j (by omega) (by omega)]
      unfold smx
      rw [hj_J, if_neg (by omega), hj_J, if_pos rfl]
      unfold wd_M
      rw [if_pos (sc_n_all A.n n12 i (by omega) j (by omega) hi hj)]
      have g : ∀ v w, (sg v + sg w).toInt = gI v + gI w := fun v w => by
        have a := gI_r v
        have b := gI_r w
        rw [← gI_sg, ← gI_sg] at *
        exact ladd_int (by omega) (by omega)
      have e : (sg (sc_j (sc i j)) + sg (oc_b (sc_i (sc i j)))).toInt = gI j + gI (oc_b i) := by
        rw [g]
        rcases sc_of (i := i) (j := j) (by omega) (by omega) with ⟨e1, e2⟩ | ⟨e1, e2, e3⟩
        · rw [e1, e2]
        · rw [e1, e2, oc_bb]; omega
      by_cases c : mh_j h (o + 1) (sc i j) < mh_j h (p + 1) (sc i j)
      · rw [if_pos c, if_pos (Int64.lt_iff_toInt_lt.mp c), e]
      · rw [if_neg c, if_neg (fun z => c (Int64.lt_iff_toInt_lt.mpr z))]
    · have hx : x < A.a := hx
      show _ = (if B.lo x < A.lo x then -2147483648 else A.lo x) ∧ _ = (if A.hi x < B.hi x then 2147483647 else A.hi x)
      have e1 := r.e x hx
      have e2 := q.e x (by omega)
      rw [hj_J, if_pos rfl, hj_J, if_pos rfl]
      have h1 : 2 * x < 2 * A.a := by omega
      have h2 : 2 * x % 2 = 0 := by omega
      have h3 : 2 * x + 1 < 2 * A.a := by omega
      have h4 : ¬ (2 * x + 1) % 2 = 0 := by omega
      unfold wd_E
      simp only [h1, h2, h3, h4, if_true, if_false]
      rw [← e1.1, ← e1.2, ← e2.1, ← e2.2]
      constructor
      · split
        · next c => rw [if_pos (Int64.lt_iff_toInt_lt.mp c)]; rfl
        · next c => rw [if_neg (fun z => c (Int64.lt_iff_toInt_lt.mpr z))]
      · split
        · next c => rw [if_pos (Int64.lt_iff_toInt_lt.mp c)]; rfl
        · next c => rw [if_neg (fun z => c (Int64.lt_iff_toInt_lt.mpr z))]
end SM
/-! loose States: bounds were made less since all were tight -/
theorem i32_or {a b : Nat} : Int32.ofNat a ||| Int32.ofNat b = Int32.ofNat (a ||| b) := by
  rw [← Int32.toBitVec_inj, Int32.toBitVec_or]
  show BitVec.ofNat 32 a ||| BitVec.ofNat 32 b = BitVec.ofNat 32 (a ||| b)
  exact (BitVec.ofNat_or).symm
theorem sl_1 : ∀ v, v < 24 → (1 : Int32) <<< (Int32.ofNat v / 2 &&& 31) = Int32.ofNat (2 ^ (v / 2)) := by decide +kernel
theorem sl_at {x v w : Nat} (hv : v < 24) (hw : w < 24) : sl (Int32.ofNat x) v w = Int32.ofNat (x ||| (2 ^ (v / 2) ||| 2 ^ (w / 2))) := by
  unfold sl
  rw [sl_1 v hv, sl_1 w hw, i32_or, i32_or]
theorem tgb_s : ∀ s, s < 12 → ((Int32.ofNat s &&& 31).toBitVec.smod 32).toNat = s := by decide +kernel
theorem tgb {x s : Nat} (hs : s < 12) : tg_b (Int32.ofNat x) s = x.testBit s := by
  have e : ((Int32.ofNat x >>> (Int32.ofNat s &&& 31)) &&& 1).toBitVec = (BitVec.ofNat 32 x).sshiftRight s &&& 1#32 := by
    rw [Int32.toBitVec_and, Int32.toBitVec_shiftRight]
    show (BitVec.ofNat 32 x).sshiftRight ((Int32.ofNat s &&& 31).toBitVec.smod 32).toNat &&& 1#32 = _
    rw [tgb_s s hs]
  have e2 : ((Int32.ofNat x >>> (Int32.ofNat s &&& 31)) &&& 1 = 1) ↔ x.testBit s = true := by
    rw [← Int32.toBitVec_inj, e, show (1 : Int32).toBitVec = 1#32 from rfl]
    constructor
    · intro h
      have := congrArg (fun b => b.getLsbD 0) h
      simp only [BitVec.getLsbD_and, BitVec.getLsbD_sshiftRight] at this
      simp at this
      have q := this
      simp [show s < 32 by omega] at q
      rw [← BitVec.getLsbD_eq_getElem (by omega), BitVec.getLsbD_ofNat] at q
      simpa [show s < 32 by omega] using q
    · intro h
      apply BitVec.eq_of_getLsbD_eq
      intro i hi
      rw [BitVec.getLsbD_and]
      by_cases c : i = 0
      · subst c
        rw [BitVec.getLsbD_sshiftRight]
        simp [show s < 32 by omega]
        rw [← BitVec.getLsbD_eq_getElem (by omega), BitVec.getLsbD_ofNat]
        simp [show s < 32 by omega, h]
      · have : (1#32).getLsbD i = false := by simp [BitVec.getLsbD_one, c]
        rw [this, Bool.and_false]
  unfold tg_b
  by_cases c : x.testBit s = true
  · rw [c]; exact decide_eq_true (e2.mpr c)
  · rw [Bool.not_eq_true] at c
    rw [c]; exact decide_eq_false (fun z => by rw [e2.mp z] at c; exact absurd c (by decide))
/-- loose: A's bounds lie below c's, which are tight, and differ from them only between slots of x -/
abbrev RL (h : mh_H) (o : Nat) (A : ab) (c : oc_M) (x : Nat) : Prop := (RM h o A) ∧ (mh_i h o 5 = Int32.ofNat x) ∧ (x < 2 ^ A.n) ∧ (oc_T A.n c) ∧ (oc_le A.n A.m c) ∧ (oc_C A.n A.m) ∧ (∀ i j, i < 2 * A.n → j < 2 * A.n → A.m i j ≠ c i j → x.testBit (i / 2) = true ∧ x.testBit (j / 2) = true)
theorem RL.m {h : mh_H} {o : Nat} {A : ab} {c : oc_M} {x : Nat} (q : RL h o A c x) : RM h o A := q.1
theorem RL.l {h : mh_H} {o : Nat} {A : ab} {c : oc_M} {x : Nat} (q : RL h o A c x) : mh_i h o 5 = Int32.ofNat x := q.2.1
theorem RL.xl {h : mh_H} {o : Nat} {A : ab} {c : oc_M} {x : Nat} (q : RL h o A c x) : x < 2 ^ A.n := q.2.2.1
theorem RL.t {h : mh_H} {o : Nat} {A : ab} {c : oc_M} {x : Nat} (q : RL h o A c x) : oc_T A.n c := q.2.2.2.1
theorem RL.le {h : mh_H} {o : Nat} {A : ab} {c : oc_M} {x : Nat} (q : RL h o A c x) : oc_le A.n A.m c := q.2.2.2.2.1
theorem RL.co {h : mh_H} {o : Nat} {A : ab} {c : oc_M} {x : Nat} (q : RL h o A c x) : oc_C A.n A.m := q.2.2.2.2.2.1
theorem RL.df {h : mh_H} {o : Nat} {A : ab} {c : oc_M} {x : Nat} (q : RL h o A c x) : ∀ i j, i < 2 * A.n → j < 2 * A.n → A.m i j ≠ c i j → x.testBit (i / 2) = true ∧ x.testBit (j / 2) = true := q.2.2.2.2.2.2
section RLS
variable {d : Nat} {h : mh_H} {o p R x : Nat} {A B : ab} {c : oc_M}
theorem RL_of (r : RS h o (some A)) (hT : oc_T A.n A.m) : RL h o A A.m 0 := ⟨r.1, r.2, Nat.two_pow_pos _, hT, fun _ _ _ _ => Int.le_refl _, hT.1, fun _ _ _ _ z => absurd rfl z⟩
theorem RL_fq {W : Nat → Prop} {h1 : mh_H} (f : fq W h h1) (w0 : ¬ W o) (w1 : ¬ W (o + 1)) (w2 : ¬ W (o + 2)) (r : RL h o A c x) : RL h1 o A c x := ⟨RM_fq f w0 w1 w2 r.m, by rw [(f.2.2.2.2.2 o w0).1]; exact r.l, r.xl, r.t, r.le, r.co, r.df⟩
theorem a_lim_at {v w i j : Nat} {k : Int} : (a_lim v w k A).m i j = if (i = oc_b w ∧ j = v) ∨ (i = oc_b v ∧ j = w) then min (A.m i j) (if v = w then 2 * k else k) else A.m i j := rfl
/-- limit -/
theorem l_147 (R : Nat) {v w : Nat} {k : Int64} (r : RL h o A c x) (hv : v < 2 * A.n) (hw : w < 2 * A.n) (hvw : v ≠ oc_b w) (hk : -1152921504606846976 ≤ k.toInt ∧ k.toInt ≤ 1152921504606846976) : ∃ h' x', fq (sW o R) h h' ∧ RL h' o (a_lim v w k.toInt A) c x' ∧ ∀ Q, mcall (d + 1) 147 [.ref o, .int (Int32.ofNat v), .int (Int32.ofNat w), .long k] h Q = Q none h' := by
  have n12 := r.m.n12
  have el : (lim v w k).toInt = if v = w then 2 * k.toInt else k.toInt := by
    unfold lim
    split
    · rw [i64_2 (by omega) (by omega)]
    · rfl
  have eb : (sb h o (oc_b w) v).toInt = A.m (oc_b w) v := r.m.m _ _ (oc_bl hw) hv
  have ec : A.m (oc_b v) w = A.m (oc_b w) v := by
    have := r.co.2 (oc_b w) v (oc_bl hw) hv
    rw [oc_bb] at this; exact this.symm
  have E := fun Q => c_147 (d := d) (Q := Q) (c := k) r.m.s (v := v) (w := w) (by omega) (by omega)
  have co := a_lim_C (c := k.toInt) r.co hv hw hvw
  have le : ∀ i j, i < 2 * A.n → j < 2 * A.n → (a_lim v w k.toInt A).m i j ≤ A.m i j := fun i j _ _ => by rw [a_lim_at]; split <;> omega
  by_cases q : lim v w k < sb h o (oc_b w) v
  · have q' := Int64.lt_iff_toInt_lt.mp q
    refine ⟨_, x ||| (2 ^ (v / 2) ||| 2 ^ (w / 2)), ?f, ?r, fun Q => by rw [E, if_pos q]⟩
    case f => exact fq_t (fq_J (Or.inr (Or.inl rfl))) (fq_si (Or.inl rfl))
    case r =>
      refine ⟨?_, ?_, ?_, r.t, fun i j hi hj => Int.le_trans (le i j hi hj) (r.le i j hi hj), co, fun i j hi hj hd => ?_⟩
      · have t := RM_J (B := a_lim v w k.toInt A) (g := fun j => if j = sc (oc_b w) v then lim v w k else mh_j h (o + 1) j) r.m rfl rfl (fun _ => rfl) (fun _ => rfl) (fun i j hi hj => by
          rw [a_lim_at]
          by_cases e : (i = oc_b w ∧ j = v) ∨ (i = oc_b v ∧ j = w)
          · have e2 : sc i j = sc (oc_b w) v := by
              rcases e with ⟨e1, e2⟩ | ⟨e1, e2⟩
              · rw [e1, e2]
              · by_cases vw : v = w
                · rw [e1, e2, vw]
                · rw [e1, e2]
                  have := sc_turn (i := oc_b w) (j := v) (fun z => by
                    rw [oc_bh] at z
                    have := oc_b_eq w
                    have := oc_bh w
                    omega)
                  rw [oc_bb] at this; exact this
            have e3 : A.m i j = A.m (oc_b w) v := by
              rcases e with ⟨e1, e2⟩ | ⟨e1, e2⟩
              · rw [e1, e2]
              · rw [e1, e2, ec]
            rw [if_pos e, if_pos e2, el, e3, ← eb, ← el]
            omega
          · rw [if_neg e, if_neg]
            · exact r.m.m i j hi hj
            · intro z
              rcases sc_inj (by omega) (by omega) (by have := oc_bl hw; omega) (by omega) z with ⟨a, b⟩ | ⟨a, b⟩
              · exact e (Or.inl ⟨a, b⟩)
              · rw [oc_bb] at b; exact e (Or.inr ⟨a, b⟩))
        refine ⟨t.s, ?_, ?_, t.n12, ?_, t.a6, t.m, t.e⟩
        · rw [hi_si, if_neg (by omega)]; exact t.z
        · rw [hi_si, if_neg (by omega)]; exact t.n
        · rw [hi_si, if_neg (by omega)]; exact t.a
      · rw [hi_si, if_pos ⟨rfl, rfl⟩, r.l, sl_at (by omega) (by omega)]
      · show _ < 2 ^ A.n
        exact Nat.or_lt_two_pow r.xl (Nat.or_lt_two_pow (Nat.pow_lt_pow_right (by omega) (by omega)) (Nat.pow_lt_pow_right (by omega) (by omega)))
      · rw [a_lim_at] at hd
        have bw := oc_bh w
        have bv := oc_bh v
        simp only [Nat.testBit_or, Bool.or_eq_true]
        by_cases e : (i = oc_b w ∧ j = v) ∨ (i = oc_b v ∧ j = w)
        · rcases e with ⟨e1, e2⟩ | ⟨e1, e2⟩
          · rw [e1, e2, bw]
            exact ⟨Or.inr (Or.inr (Nat.testBit_two_pow_self)), Or.inr (Or.inl (Nat.testBit_two_pow_self))⟩
          · rw [e1, e2, bv]
            exact ⟨Or.inr (Or.inl (Nat.testBit_two_pow_self)), Or.inr (Or.inr (Nat.testBit_two_pow_self))⟩
        · rw [if_neg e] at hd
          have := r.df i j hi hj hd
          exact ⟨Or.inl this.1, Or.inl this.2⟩
  · have q' : ¬ (lim v w k).toInt < (sb h o (oc_b w) v).toInt := fun z => q (Int64.lt_iff_toInt_lt.mpr z)
    have same : ∀ i j, (a_lim v w k.toInt A).m i j = A.m i j := fun i j => by
      rw [a_lim_at]
      by_cases e : (i = oc_b w ∧ j = v) ∨ (i = oc_b v ∧ j = w)
      · rw [if_pos e, ← el]
        have e3 : A.m i j = A.m (oc_b w) v := by
          rcases e with ⟨e1, e2⟩ | ⟨e1, e2⟩
          · rw [e1, e2]
          · rw [e1, e2, ec]
        omega
      · rw [if_neg e]
    refine ⟨h, x, fq_id, ?_, fun Q => by rw [E, if_neg q]⟩
    have e : a_lim v w k.toInt A = A := by
      have : (a_lim v w k.toInt A).m = A.m := funext fun i => funext fun j => same i j
      show (ab_mk A.n A.a ((a_lim v w k.toInt A).m) A.lo A.hi A.rm) = A
      rw [this]; rfl
    rw [e]; exact r
/-- tighten -/
theorem tg_01 {L : Int32} {n : Nat} {y : tg_S} (hy : y.1 = 0 ∨ y.1 = 1) : ∀ k, (tg L n k y).1 = 0 ∨ (tg L n k y).1 = 1 := by
  intro k
  induction k with
  | zero => exact hy
  | succ k ih =>
    show (tg_1 L n k (tg L n k y)).1 = 0 ∨ (tg_1 L n k (tg L n k y)).1 = 1
    unfold tg_1
    split
    · split
      · split
        · exact Or.inr rfl
        · show gt_z _ _ _ = 0 ∨ gt_z _ _ _ = 1
          unfold gt_z; split
          · exact Or.inr rfl
          · exact Or.inl rfl
      · exact ih
    · exact ih
theorem tg23_01 {L : Int32} {n : Nat} {y : tg_S} (hy : y.1 = 0 ∨ y.1 = 1) : (tg_3 L n (tg_2 L n y)).1 = 0 ∨ (tg_3 L n (tg_2 L n y)).1 = 1 := by
  have h2 : (tg_2 L n y).1 = 0 ∨ (tg_2 L n y).1 = 1 := by
    unfold tg_2
    split
    · exact hy
    · split
      · show rd_z _ _ = 0 ∨ rd_z _ _ = 1
        unfold rd_z; split
        · exact Or.inr rfl
        · exact Or.inl rfl
      · exact hy
  unfold tg_3
  split
  · exact h2
  · split
    · exact h2
    · exact h2
theorem fq_tgH {X : tg_S} (R : Nat) : fq (sW o R) h (mh_si (tg_H h o R X) o 5 0) := fq_t (fq_t (fq_t (fq_J (Or.inr (Or.inr (Or.inr rfl)))) (fq_J (Or.inr (Or.inl rfl)))) (fq_si (Or.inl rfl))) (fq_si (Or.inl rfl))
theorem tgH_0 {X : tg_S} : mh_i (mh_si (tg_H h o R X) o 5 0) o 0 = X.1 := by
  rw [hi_si, if_neg (by omega)]; unfold tg_H; rw [hi_si, if_pos ⟨rfl, rfl⟩]
theorem tgH_i {X : tg_S} {k : Nat} (h0 : k ≠ 0) (h5 : k ≠ 5) : mh_i (mh_si (tg_H h o R X) o 5 0) o k = mh_i h o k := by
  rw [hi_si, if_neg (by omega)]; unfold tg_H; rw [hi_si, if_neg (by omega)]; rfl
theorem tgH_5 {X : tg_S} : mh_i (mh_si (tg_H h o R X) o 5 0) o 5 = 0 := by rw [hi_si, if_pos ⟨rfl, rfl⟩]
theorem l_159n (hR : rw_ok h R) (r : RN h o) : ∃ h', fq (sW o R) h h' ∧ RS h' o none ∧ ∀ Q, mcall (d + 2) 159 [.ref o, .ref R] h Q = Q none h' := by
  obtain ⟨n, hn, en⟩ := r.n
  obtain ⟨a, ha, ea⟩ := r.a
  have ne := rw_ne r.s hR
  refine ⟨_, ?f, ?r, fun Q => c_159 r.s en hn rfl hR.k hR.l ne.2.1 (Or.inr r.z)⟩
  case f => exact fq_tgH R
  case r =>
    have st : ∀ y : tg_S, ¬ y.1 = 0 → ∀ k, tg (mh_i h o 5) n k y = y := fun y hy k => by
      have := tg_stop (L := mh_i h o 5) (n := n) (x := y) (k := 0) hy k
      rw [Nat.zero_add] at this; exact this
    have h1 : ¬ (mh_i h o 0 : Int32) = 0 := by rw [r.z]; decide
    have e : ∀ y : tg_S, ¬ y.1 = 0 → tg_3 (mh_i h o 5) n (tg_2 (mh_i h o 5) n y) = y := fun y hy => by
      have : tg_2 (mh_i h o 5) n y = y := by unfold tg_2; split; rfl; first | rfl | rw [if_neg hy]
      rw [this]; unfold tg_3; split; rfl; first | rfl | rw [if_neg hy]
    rw [st _ h1, e _ h1]
    refine ⟨⟨r.s, ?_, ⟨n, hn, ?_⟩, ⟨a, ha, ?_⟩⟩, tgH_5⟩
    · rw [tgH_0]; exact r.z
    · rw [tgH_i (by omega) (by omega)]; exact en
    · rw [tgH_i (by omega) (by omega)]; exact ea
theorem l_159 (hR : rw_ok h R) (r : RL h o A c x) (hb : ∀ i j, i < 2 * A.n → j < 2 * A.n → -34359738368 ≤ A.m i j ∧ A.m i j ≤ 1125899906842624) : ∃ h', fq (sW o R) h h' ∧ RS h' o (a_cl A) ∧ ∀ Q, mcall (d + 2) 159 [.ref o, .ref R] h Q = Q none h' := by
  have n12 := r.m.n12
  have ne := rw_ne r.m.s hR
  have x12 : x < 4096 := Nat.lt_of_lt_of_le r.xl (Nat.pow_le_pow_right (by omega) n12 : 2 ^ A.n ≤ 2 ^ 12)
  refine ⟨_, ?f, ?r, fun Q => c_159 r.m.s r.m.n r.m.n12 r.l hR.k hR.l ne.2.1 (Or.inl r.m.z)⟩
  case f => exact fq_tgH R
  case r =>
    have em : ∀ i j, i < 2 * A.n → j < 2 * A.n → smx (mh_j h (o + 1)) i j = A.m i j := r.m.m
    have co : oc_C A.n (smx (mh_j h (o + 1))) := ⟨fun i hi => by rw [em i i hi hi]; exact r.co.1 i hi, fun i j hi hj => by rw [em i j hi hj, em _ _ (oc_bl hj) (oc_bl hi)]; exact r.co.2 i j hi hj⟩
    have hL : Int32.ofNat x = 0 ↔ (List.range A.n).any (tg_b (Int32.ofNat x)) = false := by
      have z : (Int32.ofNat x = 0) = (x = 0) := nn_eq (a := x) (b := 0) (by omega) (by omega)
      rw [z, List.any_eq_false]
      constructor
      · intro e s hs
        have := List.mem_range.mp hs
        rw [tgb (by omega), e]; simp
      · intro e
        apply Nat.eq_of_testBit_eq
        intro s
        rw [Nat.zero_testBit]
        by_cases c : s < A.n
        · have := e s (List.mem_range.mpr c)
          rw [tgb (by omega)] at this
          simpa using this
        · exact Nat.testBit_lt_two_pow (Nat.lt_of_lt_of_le r.xl (Nat.pow_le_pow_right (by omega) (by omega)))
    have T := tg_cl (r := mh_j h R) (g := mh_j h (o + 1)) (n := A.n) (L := Int32.ofNat x) (C := 34359738368) (E := 1125899906842624) (by omega) (by omega) (by omega) n12 (fun i j hi hj => by have := hb i j hi hj; rw [← em i j hi hj] at this; exact this) co hL
    have K := oc_cl_ok (n := A.n) (L := tg_b (Int32.ofNat x)) (c := c) (m := smx (mh_j h (o + 1))) r.t co (fun i j hi hj => by rw [em i j hi hj]; exact r.le i j hi hj) (fun i j hi hj hd => by
      rw [em i j hi hj] at hd
      have := r.df i j hi hj hd
      rw [tgb (by omega), tgb (by omega)]; exact this)
    have z0 := r.m.z
    have E : (mh_i h o 0, mh_j h (o + 1), mh_j h R) = ((0 : Int32), mh_j h (o + 1), mh_j h R) := by rw [z0]
    rw [E]
    have O : ∀ t, oc_G A.n (smx (mh_j h (o + 1))) t → oc_G A.n A.m t := fun t ht => ⟨ht.1, fun i j hi hj => by rw [← em i j hi hj]; exact ht.2.1 i j hi hj, fun a ha hl => ht.2.2 a ha (fun i j hi hj => by rw [em i j hi hj]; exact hl i j hi hj)⟩
    cases hc : oc_cl A.n (tg_b (Int32.ofNat x)) (smx (mh_j h (o + 1))) with
    | none =>
      rw [hc] at T
      have N := a_cl_none (A := A) (fun a ha hl => K.2 hc a ha (fun i j hi hj => by rw [em i j hi hj]; exact hl i j hi hj))
      rw [N]
      have o1 := tg23_01 (L := Int32.ofNat x) (n := A.n) (tg_01 (L := Int32.ofNat x) (n := A.n) (y := ((0 : Int32), mh_j h (o + 1), mh_j h R)) (Or.inl rfl) A.n)
      have e1 : (tg_3 (Int32.ofNat x) A.n (tg_2 (Int32.ofNat x) A.n (tg (Int32.ofNat x) A.n A.n (0, mh_j h (o + 1), mh_j h R)))).1 = 1 := o1.resolve_left T
      refine ⟨⟨r.m.s, ?_, ⟨A.n, n12, ?_⟩, ⟨A.a, r.m.a6, ?_⟩⟩, tgH_5⟩
      · rw [tgH_0]; exact e1
      · rw [tgH_i (by omega) (by omega)]; exact r.m.n
      · rw [tgH_i (by omega) (by omega)]; exact r.m.a
    | some t =>
      rw [hc] at T
      obtain ⟨T1, T2⟩ := T
      obtain ⟨B, b1, b2, b3, b4, b5, b6, b7, b8⟩ := a_cl_some (O t (K.1 t hc))
      rw [b1]
      refine ⟨⟨r.m.s, ?_, ?_, by rw [b2]; exact n12, ?_, by rw [b3]; exact r.m.a6, fun i j hi hj => ?_, fun y hy => ?_⟩, tgH_5⟩
      · rw [tgH_0]; exact T1
      · rw [tgH_i (by omega) (by omega), b2]; exact r.m.n
      · rw [tgH_i (by omega) (by omega), b3]; exact r.m.a
      · rw [b2] at hi hj
        rw [b8 i j hi hj, ← T2 i j hi hj]
        unfold smx
        rw [hj_si]; unfold tg_H
        rw [hj_si, hj_J, if_pos rfl]
      · rw [b3] at hy
        rw [b4, b5, hj_si]; unfold tg_H
        have q1 : ¬ o + 2 = o + 1 := by omega
        have q2 : ¬ o + 2 = R := fun z => ne.2.2 z.symm
        simp only [hj_si, hj_J, q1, q2, if_false]
        exact r.m.e y hy
end RLS
