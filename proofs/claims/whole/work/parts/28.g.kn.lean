set_option maxRecDepth 100000
/-! the reference's Known over what is known -/
def kW (o b : Nat) : Prop := b = o ∨ b = o + 1 ∨ b = o + 2 ∨ b = o + 3 ∨ b = o + 4
abbrev KM (h : mh_H) (o : Nat) (A : ab) : Prop := (ko h o) ∧ (mh_i h o 0 = 0) ∧ (mh_i h o 1 = Int32.ofNat A.n) ∧ (A.n ≤ 12) ∧ (mh_i h o 2 = Int32.ofNat A.a) ∧ (A.a ≤ 6) ∧ (∀ i j, i < 2 * A.n → j < 2 * A.n → (mh_j h (o + 1) (24 * i + j)).toInt = A.m (oc_b i) j) ∧ (∀ x, x < A.a → (mh_j h (o + 2) x).toInt = A.lo x) ∧ (∀ x, x < A.a → (mh_j h (o + 3) x).toInt = A.hi x) ∧ (∀ x, x < A.a → mh_i h (o + 4) x = Int32.ofNat (A.rm x))
theorem KM.s {h : mh_H} {o : Nat} {A : ab} (q : KM h o A) : ko h o := q.1
theorem KM.z {h : mh_H} {o : Nat} {A : ab} (q : KM h o A) : mh_i h o 0 = 0 := q.2.1
theorem KM.n {h : mh_H} {o : Nat} {A : ab} (q : KM h o A) : mh_i h o 1 = Int32.ofNat A.n := q.2.2.1
theorem KM.n12 {h : mh_H} {o : Nat} {A : ab} (q : KM h o A) : A.n ≤ 12 := q.2.2.2.1
theorem KM.a {h : mh_H} {o : Nat} {A : ab} (q : KM h o A) : mh_i h o 2 = Int32.ofNat A.a := q.2.2.2.2.1
theorem KM.a6 {h : mh_H} {o : Nat} {A : ab} (q : KM h o A) : A.a ≤ 6 := q.2.2.2.2.2.1
theorem KM.m {h : mh_H} {o : Nat} {A : ab} (q : KM h o A) : ∀ i j, i < 2 * A.n → j < 2 * A.n → (mh_j h (o + 1) (24 * i + j)).toInt = A.m (oc_b i) j := q.2.2.2.2.2.2.1
theorem KM.lo {h : mh_H} {o : Nat} {A : ab} (q : KM h o A) : ∀ x, x < A.a → (mh_j h (o + 2) x).toInt = A.lo x := q.2.2.2.2.2.2.2.1
theorem KM.hi {h : mh_H} {o : Nat} {A : ab} (q : KM h o A) : ∀ x, x < A.a → (mh_j h (o + 3) x).toInt = A.hi x := q.2.2.2.2.2.2.2.2.1
theorem KM.rm {h : mh_H} {o : Nat} {A : ab} (q : KM h o A) : ∀ x, x < A.a → mh_i h (o + 4) x = Int32.ofNat (A.rm x) := q.2.2.2.2.2.2.2.2.2
abbrev KN (h : mh_H) (o : Nat) : Prop := (ko h o) ∧ (mh_i h o 0 = 1) ∧ (∃ n, n ≤ 12 ∧ mh_i h o 1 = Int32.ofNat n) ∧ (∃ a, a ≤ 6 ∧ mh_i h o 2 = Int32.ofNat a)
theorem KN.s {h : mh_H} {o : Nat} (q : KN h o) : ko h o := q.1
theorem KN.z {h : mh_H} {o : Nat} (q : KN h o) : mh_i h o 0 = 1 := q.2.1
theorem KN.n {h : mh_H} {o : Nat} (q : KN h o) : ∃ n, n ≤ 12 ∧ mh_i h o 1 = Int32.ofNat n := q.2.2.1
theorem KN.a {h : mh_H} {o : Nat} (q : KN h o) : ∃ a, a ≤ 6 ∧ mh_i h o 2 = Int32.ofNat a := q.2.2.2
def RK (h : mh_H) (o : Nat) : Option ab → Prop
  | none => KN h o
  | some A => KM h o A
theorem RK_ko {h : mh_H} {o : Nat} {A : Option ab} (x : RK h o A) : ko h o := by
  cases A with
  | none => exact KN.s x
  | some A => exact KM.s x
theorem ko_ap {h : mh_H} {o p : Nat} (hs : ko h o) (hp : ko h p) (hop : o ≠ p) : ∀ x y, x ≤ 4 → y ≤ 4 → ¬ p + x = o + y := by
  intro x y hx hy
  have N := ko_ne hs hp hop
  by_cases c : x = y ∨ x = 0 ∨ y = 0 ∨ x = 1 ∨ y = 1 ∨ x = 4 ∨ y = 4
  · exact N x y hx hy c
  · have a := N 1 0 (by omega) (by omega) (by omega)
    have b := N 0 1 (by omega) (by omega) (by omega)
    omega
theorem ko_fq {W : Nat → Prop} {h h1 : mh_H} {o : Nat} (x : fq W h h1) (s : ko h o) : ko h1 o := by
  obtain ⟨s1, s2, s3, s4, s5, s6, s7, s8, s9, s10, s11, s12, s13⟩ := s
  have l := x.2.1
  have r := x.2.2.1
  exact ⟨(fq_mg x).mpr s1, by rw [r]; exact s2, (fq_mg x).mpr s3, by rw [l]; exact s4, by rw [r]; exact s5, (fq_mg x).mpr s6, by rw [l]; exact s7, by rw [r]; exact s8, (fq_mg x).mpr s9, by rw [l]; exact s10, by rw [r]; exact s11, (fq_mg x).mpr s12, by rw [l]; exact s13⟩
theorem KM_fq {W : Nat → Prop} {h h1 : mh_H} {o : Nat} {A : ab} (x : fq W h h1) (w : ∀ y, y ≤ 4 → ¬ W (o + y)) (r : KM h o A) : KM h1 o A := by
  have f := x.2.2.2.2.2
  have f0 := f o (w 0 (by omega))
  refine ⟨ko_fq x r.s, ?_, ?_, r.n12, ?_, r.a6, fun i j hi hj => ?_, fun y hy => ?_, fun y hy => ?_, fun y hy => ?_⟩
  · rw [f0.1]; exact r.z
  · rw [f0.1]; exact r.n
  · rw [f0.1]; exact r.a
  · rw [(f _ (w 1 (by omega))).2]; exact r.m i j hi hj
  · rw [(f _ (w 2 (by omega))).2]; exact r.lo y hy
  · rw [(f _ (w 3 (by omega))).2]; exact r.hi y hy
  · rw [(f _ (w 4 (by omega))).1]; exact r.rm y hy
theorem KN_fq {W : Nat → Prop} {h h1 : mh_H} {o : Nat} (x : fq W h h1) (w : ¬ W o) (r : KN h o) : KN h1 o := by
  have f := (x.2.2.2.2.2 o w).1
  exact ⟨ko_fq x r.s, by rw [f]; exact r.z, by rw [f]; exact r.n, by rw [f]; exact r.a⟩
theorem RK_fq {W : Nat → Prop} {h h1 : mh_H} {o : Nat} {A : Option ab} (x : fq W h h1) (w : ∀ y, y ≤ 4 → ¬ W (o + y)) (r : RK h o A) : RK h1 o A := by
  cases A with
  | none => exact KN_fq x (w 0 (by omega)) r
  | some A => exact KM_fq x w r
theorem kW_not {h : mh_H} {o p : Nat} (hs : ko h o) (hp : ko h p) (hop : p ≠ o) : ∀ y, y ≤ 4 → ¬ kW o (p + y) := by
  intro y hy z
  have N := ko_ap hs hp (fun e => hop e.symm)
  have n0 := N y 0 hy (by omega)
  have n1 := N y 1 hy (by omega)
  have n2 := N y 2 hy (by omega)
  have n3 := N y 3 hy (by omega)
  have n4 := N y 4 hy (by omega)
  unfold kW at z
  omega
/-- another Known stays -/
theorem RK_o {h h1 : mh_H} {o p : Nat} {A : Option ab} (x : fq (kW o) h h1) (hs : ko h o) (hop : p ≠ o) (q : RK h p A) : RK h1 p A := RK_fq x (kW_not hs (RK_ko q) hop) q
theorem kW0 {o : Nat} : kW o o := Or.inl rfl
theorem kW1 {o : Nat} : kW o (o + 1) := Or.inr (Or.inl rfl)
theorem kW2 {o : Nat} : kW o (o + 2) := Or.inr (Or.inr (Or.inl rfl))
theorem kW3 {o : Nat} : kW o (o + 3) := Or.inr (Or.inr (Or.inr (Or.inl rfl)))
theorem kW4 {o : Nat} : kW o (o + 4) := Or.inr (Or.inr (Or.inr (Or.inr rfl)))
/-- a row of sums is written anew -/
theorem KM_J {h : mh_H} {o : Nat} {A B : ab} {g : Nat → Int64} (r : KM h o A) (hn : B.n = A.n) (ha : B.a = A.a) (hl : ∀ x, B.lo x = A.lo x) (hh : ∀ x, B.hi x = A.hi x) (hr : ∀ x, B.rm x = A.rm x) (hm : ∀ i j, i < 2 * A.n → j < 2 * A.n → (g (24 * i + j)).toInt = B.m (oc_b i) j) : KM (mh_J h (o + 1) g) o B := by
  refine ⟨r.s, r.z, by rw [hn]; exact r.n, by rw [hn]; exact r.n12, by rw [ha]; exact r.a, by rw [ha]; exact r.a6, fun i j hi hj => ?_, fun x hx => ?_, fun x hx => ?_, fun x hx => ?_⟩
  · rw [hj_J, if_pos rfl]
    exact hm i j (by omega) (by omega)
  · rw [hj_J, if_neg (by omega), hl]; exact r.lo x (by omega)
  · rw [hj_J, if_neg (by omega), hh]; exact r.hi x (by omega)
  · rw [hr]; exact r.rm x (by omega)
/-- the bound of v + w; of v for v = w -/
def a_gr (A : ab) (v w : Nat) : Int := if v = w then A.m (oc_b w) v / 2 else A.m (oc_b w) v
theorem a_gr_c {A : ab} (hC : oc_C A.n A.m) {v w : Nat} (hv : v < 2 * A.n) (hw : w < 2 * A.n) : A.m (oc_b w) v = A.m (oc_b v) w := by
  have := hC.2 (oc_b w) v (oc_bl hw) hv
  rw [oc_bb] at this; exact this
section KL
variable {d : Nat} {h : mh_H} {o p : Nat} {A B : ab}
theorem k_280 (hs : ko h o) {A : ab} (hn : A.n = 0) (ha : A.a = 0) : ∃ h', fq (kW o) h h' ∧ RK h' o (some A) ∧ ∀ Q, mcall d 280 [.ref o] h Q = Q none h' := by
  refine ⟨_, ?f, ?r, fun Q => c_280 hs.1⟩
  case f => exact fq_t (fq_t (fq_si kW0) (fq_si kW0)) (fq_si kW0)
  case r =>
    refine ⟨hs, ?_, ?_, by omega, ?_, by omega, fun i j hi => by omega, fun x hx => by omega, fun x hx => by omega, fun x hx => by omega⟩
    all_goals simp [hi_si, hn, ha] <;> rfl
theorem k_290 {n a : Nat} (r : RK h o (some A)) (hn : n ≤ A.n) (ha : a ≤ A.a) : ∃ h', fq (kW o) h h' ∧ RK h' o (some (a_keep n a A)) ∧ ∀ Q, mcall d 290 [.ref o, .int (Int32.ofNat n), .int (Int32.ofNat a)] h Q = Q none h' := by
  have r : KM h o A := r
  have n12 := r.n12
  have a6 := r.a6
  refine ⟨_, ?f, ?r, fun Q => c_290 r.s.1⟩
  case f => exact fq_t (fq_si kW0) (fq_si kW0)
  case r =>
    refine ⟨r.s, ?_, ?_, ?_, ?_, ?_, fun i j hi hj => ?_, fun x hx => ?_, fun x hx => ?_, fun x hx => ?_⟩
    · simp [hi_si, r.z]
    · simp [hi_si, a_keep, ab_n]
    · show n ≤ 12; omega
    · simp [hi_si, a_keep, ab_a]
    · show a ≤ 6; omega
    · exact r.m i j (by simp only [a_keep, ab_n] at hi; omega) (by simp only [a_keep, ab_n] at hj; omega)
    · exact r.lo x (by simp only [a_keep, ab_a] at hx; omega)
    · exact r.hi x (by simp only [a_keep, ab_a] at hx; omega)
    · rw [hi_si, if_neg (by omega), hi_si, if_neg (by omega)]
      exact r.rm x (by simp only [a_keep, ab_a] at hx; omega)
theorem k_290n {n a : Nat} (r : RK h o none) (hn : n ≤ 12) (ha : a ≤ 6) : ∃ h', fq (kW o) h h' ∧ RK h' o none ∧ ∀ Q, mcall d 290 [.ref o, .int (Int32.ofNat n), .int (Int32.ofNat a)] h Q = Q none h' := by
  have r : KN h o := r
  refine ⟨_, ?f, ?r, fun Q => c_290 r.s.1⟩
  case f => exact fq_t (fq_si kW0) (fq_si kW0)
  case r =>
    refine ⟨r.s, ?_, ⟨n, hn, ?_⟩, ⟨a, ha, ?_⟩⟩
    · simp [hi_si, r.z]
    · simp [hi_si]
    · simp [hi_si]
theorem k_282 (r : RK h o (some A)) (hT : oc_T A.n A.m) {i j : Nat} (hi : i < 2 * A.n) (hj : j < 2 * A.n) : ∃ x : Int64, x.toInt = a_gr A i j ∧ ∀ Q, mcall (d + 1) 282 [.ref o, .int (Int32.ofNat i), .int (Int32.ofNat j)] h Q = Q (some (.long x)) h := by
  have r : KM h o A := r
  have n12 := r.n12
  refine ⟨_, ?_, fun Q => c_282 r.s (by omega) (by omega)⟩
  have e := r.m i j hi hj
  have c := a_gr_c hT.1 hi hj
  unfold k_bd a_gr
  by_cases e1 : j = oc_b i
  · rw [if_pos e1, if_neg (fun z => oc_bn i (by rw [← e1, z])), e1, oc_bb, hT.1.1 i hi]; rfl
  · rw [if_neg e1]
    by_cases e2 : i = j
    · subst e2
      rw [if_pos rfl, if_pos rfl, half_int, e]
      rw [e]
      have := hT.2.2.1 (oc_b i) (oc_bl hi)
      rw [oc_bb] at this; exact this
    · rw [if_neg e2, if_neg e2, e, c]
theorem k_even (r : KM h o A) (hT : oc_T A.n A.m) {v : Nat} (hv : v < 2 * A.n) : (mh_j h (o + 1) (24 * v + v) / 2).toInt = a_gr A v v := by
  have e := r.m v v hv hv
  unfold a_gr
  rw [if_pos rfl, half_int, e]
  rw [e]
  have := hT.2.2.1 (oc_b v) (oc_bl hv)
  rw [oc_bb] at this; exact this
theorem k_284 (r : RK h o (some A)) (hT : oc_T A.n A.m) {x : Nat} (hx : x < A.n) : ∃ y : Int64, y.toInt = a_gr A (2 * x) (2 * x) ∧ ∀ Q, mcall (d + 2) 284 [.ref o, .int (Int32.ofNat x)] h Q = Q (some (.long y)) h := by
  have r : KM h o A := r
  have n12 := r.n12
  exact ⟨_, k_even r hT (by omega), fun Q => c_284 r.s (by omega)⟩
theorem k_283 (r : RK h o (some A)) (hT : ab_T A) {x : Nat} (hx : x < A.n) : ∃ y : Int64, y.toInt = -a_gr A (2 * x + 1) (2 * x + 1) ∧ ∀ Q, mcall (d + 2) 283 [.ref o, .int (Int32.ofNat x)] h Q = Q (some (.long y)) h := by
  have r : KM h o A := r
  have n12 := r.n12
  refine ⟨_, ?_, fun Q => c_283 r.s (by omega)⟩
  have e := k_even r hT.t (v := 2 * x + 1) (by omega)
  have b := hT.lo2 (oc_bl (show 2 * x + 1 < 2 * A.n by omega)) (show 2 * x + 1 < 2 * A.n by omega)
  unfold a_gr at e ⊢
  rw [if_pos rfl] at e ⊢
  rw [i64_n (by omega), e]
theorem k_limG {g : Nat → Int64} {B : ab} (n12 : B.n ≤ 12) (hC : oc_C B.n B.m) (hg : ∀ x y, x < 2 * B.n → y < 2 * B.n → (g (24 * x + y)).toInt = B.m (oc_b x) y) {i j : Nat} {c : Int64} (hi : i < 2 * B.n) (hj : j < 2 * B.n) (hc : -1152921504606846976 ≤ c.toInt ∧ c.toInt ≤ 1152921504606846976) {x y : Nat} (hx : x < 2 * B.n) (hy : y < 2 * B.n) : (k_lim g i j c (24 * x + y)).toInt = (a_lim i j c.toInt B).m (oc_b x) y := by
  have el : (lim i j c).toInt = if i = j then 2 * c.toInt else c.toInt := by
    unfold lim
    split
    · rw [i64_2 (by omega) (by omega)]
    · rfl
  have ec := a_gr_c hC hi hj
  rw [a_lim_at]
  unfold k_lim
  by_cases e : (x = j ∧ y = i) ∨ (x = i ∧ y = j)
  · have e1 : 24 * x + y = 24 * j + i ∨ 24 * x + y = 24 * i + j := by omega
    have e2 : (oc_b x = oc_b j ∧ y = i) ∨ (oc_b x = oc_b i ∧ y = j) := by rw [oc_bi, oc_bi]; exact e
    rw [if_pos e1, if_pos e2, lmin_int, el, hg i j hi hj]
    rcases e with ⟨a, b⟩ | ⟨a, b⟩
    · rw [a, b, ec]
    · rw [a, b]
  · have e1 : ¬ (24 * x + y = 24 * j + i ∨ 24 * x + y = 24 * i + j) := by omega
    have e2 : ¬ ((oc_b x = oc_b j ∧ y = i) ∨ (oc_b x = oc_b i ∧ y = j)) := by rw [oc_bi, oc_bi]; exact e
    rw [if_neg e1, if_neg e2]; exact hg x y hx hy
theorem k_285 {i j : Nat} {c : Int64} (r : RK h o (some A)) (hC : oc_C A.n A.m) (hi : i < 2 * A.n) (hj : j < 2 * A.n) (hc : -1152921504606846976 ≤ c.toInt ∧ c.toInt ≤ 1152921504606846976) : ∃ h', fq (kW o) h h' ∧ RK h' o (some (a_lim i j c.toInt A)) ∧ ∀ Q, mcall d 285 [.ref o, .int (Int32.ofNat i), .int (Int32.ofNat j), .long c] h Q = Q none h' := by
  have r : KM h o A := r
  have n12 := r.n12
  refine ⟨_, ?f, ?r, fun Q => c_285 r.s (by omega) (by omega)⟩
  case f => exact fq_J kW1
  case r =>
    exact KM_J r rfl rfl (fun _ => rfl) (fun _ => rfl) (fun _ => rfl) (fun x y hx hy => k_limG n12 hC r.m hi hj hc hx hy)
end KL
section KL2
variable {d : Nat} {h : mh_H} {o p : Nat} {A B : ab}
/-- settle -/
theorem k_286n (r : RK h o none) : ∃ h', fq (kW o) h h' ∧ RK h' o none ∧ ∀ Q, mcall (d + 1) 286 [.ref o] h Q = Q none h' := by
  have r' : KN h o := r
  obtain ⟨n, hn, en⟩ := r'.n
  exact ⟨h, fq_id, r, fun Q => c_286n r'.s en r'.z⟩
theorem k_286 (r : RK h o (some A)) (hC : oc_C A.n A.m) (hb : (∀ i j, i < 2 * A.n → j < 2 * A.n → -35184372088832 ≤ A.m i j ∧ A.m i j ≤ 17179869184) ∨ ((∀ i j, i < 2 * A.n → j < 2 * A.n → -34359738368 ≤ A.m i j ∧ A.m i j ≤ 1152921504606846976) ∧ ∀ i, i < 2 * A.n → A.m (oc_b i) i ≤ 17179869184)) : ∃ h', fq (kW o) h h' ∧ RK h' o (a_cl A) ∧ ∀ Q, mcall (d + 1) 286 [.ref o] h Q = Q none h' := by
  have r : KM h o A := r
  have n12 := r.n12
  have ek : ∀ a b, a < 2 * A.n → b < 2 * A.n → kS (mh_j h (o + 1)) a b = A.m (oc_b a) b := fun a b ha hb => by rw [kS_at (by omega)]; exact r.m a b ha hb
  have hz : ∀ a, a < 2 * A.n → kS (mh_j h (o + 1)) a (oc_b a) ≤ 0 := fun a ha => by
    rw [ek a _ ha (oc_bl ha), hC.1 _ (oc_bl ha)]; exact Int.le_refl _
  have X : ∃ f r, st_run A.n f (mh_j h (o + 1)) = some r ∧ st_ok A.n (mh_j h (o + 1)) r := by
    rcases hb with hb | ⟨hb, hd⟩
    · exact st_ends' n12 _ (fun a b ha hb' => by rw [ek a b ha hb']; exact (hb _ _ (oc_bl ha) hb').2) (fun a b ha hb' => by rw [ek a b ha hb']; exact (hb _ _ (oc_bl ha) hb').1) hz
    · exact st_ends2 n12 _ (fun a b ha hb' => by rw [ek a b ha hb']; exact (hb _ _ (oc_bl ha) hb').2) (fun a ha => by rw [ek a a ha ha]; exact hd a ha) (fun a b ha hb' => by rw [ek a b ha hb']; exact (hb _ _ (oc_bl ha) hb').1) hz
  obtain ⟨f, ⟨rb, rS⟩, hr, ok1, ok2, ok3, ok4⟩ := X
  have hs := r.s
  have low : ∀ a, oc_T A.n a → oc_le A.n a A.m → rb = false ∧ ∀ i j, i < 2 * A.n → j < 2 * A.n → a (oc_b i) j ≤ kS rS i j := fun a ha hl => ok2 (si_to a) (oc_si ha) (fun x y hx hy => by
    rw [ek x y hx hy]; exact hl _ _ (oc_bl hx) hy)
  cases rb with
  | true =>
    refine ⟨_, ?f, ?r, fun Q => c_286 r.s r.n r.n12 r.z hr⟩
    case f => exact fq_t (fq_J kW1) (fq_si kW0)
    case r =>
      rw [a_cl_none (fun a ha hl => absurd (low a ha hl).1 (by decide))]
      show KN _ _
      refine ⟨hs, ?_, ⟨A.n, n12, ?_⟩, ⟨A.a, r.a6, ?_⟩⟩
      · simp [hi_si]
      · simp [hi_si, hi_J, r.n]
      · simp [hi_si, hi_J, r.a]
  | false =>
    refine ⟨_, ?f, ?r, fun Q => c_286 r.s r.n r.n12 r.z hr⟩
    case f => exact fq_J kW1
    case r =>
      have T : oc_T A.n (si_of (kS rS)) := si_oc (ok4 rfl)
      have G : oc_G A.n A.m (si_of (kS rS)) := by
        refine ⟨T, fun i j hi hj => ?_, fun a ha hl i j hi hj => ?_⟩
        · have := ok1 (oc_b i) j
          rw [ek _ _ (oc_bl hi) hj, oc_bb] at this
          exact this
        · have := (low a ha hl).2 (oc_b i) j (oc_bl hi) hj
          rw [oc_bb] at this; exact this
      obtain ⟨B, b1, b2, b3, b4, b5, b6, b7, b8⟩ := a_cl_some G
      rw [b1]
      show KM (mh_J h (o + 1) rS) o B
      refine KM_J r b2 b3 (fun x => by rw [b4]) (fun x => by rw [b5]) (fun x => by rw [b6]) (fun i j hi hj => ?_)
      rw [b8 _ _ (oc_bl hi) hj]
      show _ = kS rS (oc_b (oc_b i)) j
      rw [oc_bb, kS_at (by omega)]
/-- free -/
theorem kf_at {x n i j : Nat} (hn : n ≤ 12) (hi : i < 2 * n) (hj : j < 2 * n) : kf_V x n (24 * i + j) = true ↔ (i / 2 = x ∨ j / 2 = x) := by
  have e1 : (24 * i + j) / 24 = i := by omega
  have e2 : (24 * i + j) % 24 = j := by omega
  unfold kf_V kf_U
  rw [Bool.or_eq_true, decide_eq_true_eq, decide_eq_true_eq, e1, e2]
  omega
theorem k_287m {x : Nat} {X : mh_H} {B : ab} (r : KM X o B) (hx : x < B.n) (he : ∀ i, i < 2 * B.n → i / 2 ≠ x → B.m i (oc_b i) % 2 = 0 ∧ -4294967296 ≤ B.m i (oc_b i) ∧ B.m i (oc_b i) ≤ 4294967296) : KM (mh_J X (o + 1) (sw (kf_V x B.n) (kf_f x (mh_j X (o + 1))) (mh_j X (o + 1)))) o (a_free x B) := by
  have n12 := r.n12
  refine KM_J r rfl rfl (fun _ => rfl) (fun _ => rfl) (fun _ => rfl) (fun i j hi hj => ?_)
  have hg : ∀ v, 2147483647 ≤ (sg v).toInt ∧ (sg v).toInt ≤ 2147483648 := fun v => by rw [gI_sg]; exact gI_r v
  have ha : ∀ v, v < 2 * B.n → v / 2 ≠ x → (mh_j X (o + 1) (24 * v + v) / 2).toInt = B.m (oc_b v) v / 2 ∧ -2147483648 ≤ (mh_j X (o + 1) (24 * v + v) / 2).toInt ∧ (mh_j X (o + 1) (24 * v + v) / 2).toInt ≤ 2147483648 := fun v hv hvs => by
    have e := he (oc_b v) (oc_bl hv) (by rw [oc_bh]; exact hvs)
    rw [oc_bb] at e
    have e2 := r.m v v hv hv
    have e3 : (mh_j X (o + 1) (24 * v + v) / 2).toInt = B.m (oc_b v) v / 2 := by
      rw [half_int, e2]
      rw [e2]; exact e.1
    rw [e3]
    omega
  have d1 : (24 * i + j) / 24 = i := by omega
  have d2 : (24 * i + j) % 24 = j := by omega
  have bi := oc_bh i
  show _ = a_frm x B.m (oc_b i) j
  unfold sw
  split
  · next c =>
    have c' := (kf_at n12 hi hj).mp c
    unfold kf_f kf_m a_frm
    rw [d1, d2, if_pos (show oc_b i / 2 = x ∨ j / 2 = x by omega)]
    by_cases e3 : i / 2 = x
    · rw [if_pos e3]
      by_cases e2 : j / 2 = x
      · rw [if_pos e2]
        unfold k_far
        by_cases e1 : j = oc_b i
        · rw [if_pos e1, if_pos e1.symm]; rfl
        · have ij : i = j := by
            have := oc_b_eq i
            omega
          subst ij
          rw [if_neg e1, if_neg (fun z => e1 z.symm), if_pos bi, oc_bb, ladd_int (by have := hg i; omega) (by have := hg i; omega), gI_sg]; omega
      · rw [if_neg e2, if_neg (fun z => e2 (by rw [← z, bi]; exact e3)), if_neg (by omega), if_pos (by omega), oc_bb]
        have a := ha j hj e2
        have b := hg i
        rw [ladd_int (by omega) (by omega), gI_sg, a.1]
    · have e2 : j / 2 = x := by omega
      rw [if_neg e3, if_neg (fun z => e3 (by rw [← bi, z]; exact e2)), if_neg (by omega), if_neg (by omega), oc_bb]
      have a := ha i hi e3
      have b := hg j
      rw [ladd_int (by omega) (by omega), gI_sg, a.1]
  · next c =>
    have c' := mt (kf_at n12 hi hj).mpr c
    unfold a_frm
    rw [if_neg (by omega)]
    exact r.m i j hi hj
theorem k_287 {x : Nat} (r : RK h o (some A)) (hT : ab_T A) (hx : x < A.n) : ∃ h', fq (kW o) h h' ∧ RK h' o (some (a_free x A)) ∧ ∀ Q, mcall (d + 2) 287 [.ref o, .int (Int32.ofNat x)] h Q = Q none h' := by
  have r : KM h o A := r
  refine ⟨_, ?f, ?r, fun Q => c_287 r.s r.n r.n12 hx⟩
  case f => exact fq_J kW1
  case r => exact k_287m r hx (fun i hi _ => hT.ev hi)
theorem k_288 (r : RK h o (some A)) (hT : ab_T A) (hn : A.n < 12) : ∃ h', fq (kW o) h h' ∧ RK h' o (some (a_add A)) ∧ ∀ Q, mcall (d + 3) 288 [.ref o] h Q = Q none h' := by
  have r : KM h o A := r
  refine ⟨_, ?f, ?r, fun Q => c_288 r.s r.n hn⟩
  case f => exact fq_t (fq_si kW0) (fq_J kW1)
  case r =>
    obtain ⟨r1, r2, r3, r4, r5', r6, r7, r8, r9, r10⟩ := r
    obtain ⟨M, hM⟩ : ∃ M : oc_M, ∀ i j, M i j = (mh_j h (o + 1) (24 * oc_b i + j)).toInt := ⟨_, fun _ _ => rfl⟩
    have rm : KM (mh_si h o 1 (Int32.ofNat (A.n + 1))) o (ab_mk (A.n + 1) A.a M A.lo A.hi A.rm) := by
      refine ⟨r1, ?_, ?_, by show A.n + 1 ≤ 12; omega, ?_, r6, fun i j hi hj => ?_, fun x hx => r8 x hx, fun x hx => r9 x hx, fun x hx => ?_⟩
      · rw [hi_si, if_neg (by omega)]; exact r2
      · rw [hi_si, if_pos ⟨rfl, rfl⟩]; rfl
      · rw [hi_si, if_neg (by omega)]; exact r5'
      · show _ = M (oc_b i) j
        rw [hM, oc_bb]; rfl
      · rw [hi_si, if_neg (by omega)]; exact r10 x hx
    have hMm : ∀ i j, i < 2 * A.n → j < 2 * A.n → M i j = A.m i j := fun i j hi hj => by
      rw [hM, r7 _ _ (oc_bl hi) hj, oc_bb]
    have t := k_287m (x := A.n) rm (by show A.n < A.n + 1; omega) (fun i hi c => by
      have hi : i < 2 * (A.n + 1) := hi
      show M i (oc_b i) % 2 = 0 ∧ -4294967296 ≤ M i (oc_b i) ∧ M i (oc_b i) ≤ 4294967296
      rw [hMm i (oc_b i) (by omega) (oc_bl (by omega))]
      exact hT.ev (by omega))
    refine ⟨t.s, t.z, t.n, t.n12, t.a, t.a6, fun i j hi hj => ?_, t.lo, t.hi, t.rm⟩
    have hi' : i < 2 * (A.n + 1) := hi
    have hj' : j < 2 * (A.n + 1) := hj
    have q := t.m i j hi hj
    refine q.trans ?_
    show a_frm A.n M (oc_b i) j = a_frm A.n A.m (oc_b i) j
    have bi := oc_bh i
    unfold a_frm
    by_cases c : oc_b i / 2 = A.n ∨ j / 2 = A.n
    · rw [if_pos c, if_pos c]
      by_cases e1 : oc_b i = j
      · rw [if_pos e1, if_pos e1]
      · rw [if_neg e1, if_neg e1]
        by_cases e2 : oc_b i / 2 = j / 2
        · rw [if_pos e2, if_pos e2]
        · rw [if_neg e2, if_neg e2]
          by_cases e3 : oc_b i / 2 = A.n
          · rw [if_pos e3, if_pos e3, hMm _ _ (oc_bl (by omega)) (by omega)]
          · rw [if_neg e3, if_neg e3, hMm _ _ (oc_bl (by omega)) (oc_bl (oc_bl (by omega)))]
    · rw [if_neg c, if_neg c, hMm _ _ (oc_bl (by omega)) (by omega)]
theorem k_289 {x : Nat} (r : RK h o (some A)) (ha : A.a < 6) : ∃ h', fq (kW o) h h' ∧ RK h' o (some (a_arr x A)) ∧ ∀ Q, mcall d 289 [.ref o, .int (Int32.ofNat x)] h Q = Q none h' := by
  have r : KM h o A := r
  refine ⟨_, ?f, ?r, fun Q => c_289 r.s r.a ha⟩
  case f => exact fq_t (fq_t (fq_t (fq_J kW2) (fq_J kW3)) (fq_si kW4)) (fq_si kW0)
  case r =>
    refine ⟨r.s, ?_, ?_, r.n12, ?_, ?_, fun i j hi hj => ?_, fun y hy => ?_, fun y hy => ?_, fun y hy => ?_⟩
    · simp [hi_si, hi_J, r.z]
    · simp [hi_si, hi_J, r.n, a_arr, ab_n]
    · simp [hi_si, hi_J, a_arr, ab_a]
    · show A.a + 1 ≤ 6; omega
    · rw [hj_si, hj_si, hj_J, if_neg (by omega), hj_J, if_neg (by omega)]
      exact r.m i j hi hj
    · have hy : y < A.a + 1 := hy
      show _ = if y = A.a then 0 else A.lo y
      rw [hj_si, hj_si, hj_J, if_neg (by omega), hj_J, if_pos rfl]
      by_cases c : y = A.a
      · rw [if_pos c, if_pos c]; rfl
      · rw [if_neg c, if_neg c]; exact r.lo y (by omega)
    · have hy : y < A.a + 1 := hy
      show _ = if y = A.a then 0 else A.hi y
      rw [hj_si, hj_si, hj_J, if_pos rfl]
      by_cases c : y = A.a
      · rw [if_pos c, if_pos c]; rfl
      · rw [if_neg c, if_neg c]; exact r.hi y (by omega)
    · have hy : y < A.a + 1 := hy
      show _ = Int32.ofNat (if y = A.a then x else A.rm y)
      rw [hi_si, if_neg (by omega), hi_si]
      by_cases c : y = A.a
      · rw [if_pos ⟨rfl, c⟩, if_pos c]
      · rw [if_neg (fun z => c z.2), if_neg c, hi_J, hi_J]; exact r.rm y (by omega)
/-- turn -/
theorem k_291 {x : Nat} (r : RK h o (some A)) (hx : x < A.n) : ∃ h', fq (kW o) h h' ∧ RK h' o (some (a_turn x A)) ∧ ∀ Q, mcall (d + 1) 291 [.ref o, .int (Int32.ofNat x)] h Q = Q none h' := by
  have r : KM h o A := r
  have n12 := r.n12
  refine ⟨_, ?f, ?r, fun Q => c_291 r.s r.n r.n12 hx⟩
  case f => exact fq_J kW1
  case r =>
    refine KM_J r rfl rfl (fun _ => rfl) (fun _ => rfl) (fun _ => rfl) (fun i j hi hj => ?_)
    have hl : ∀ i, i < 2 * A.n → ng_t x i < 2 * A.n := fun i hi => by unfold ng_t; split; exact oc_bl hi; exact hi
    show _ = A.m (ng_t x (oc_b i)) (ng_t x j)
    rw [ng_tb, ← r.m _ _ (hl i hi) (hl j hj)]
    have bj := oc_bl hj
    have R : ∀ y, y < 2 * A.n → kt_r x (mh_j h (o + 1)) (2 * A.n) (24 * i + y) = mh_j h (o + 1) (24 * ng_t x i + y) := fun y hy => by
      have d1 : (24 * i + y) / 24 = i := by omega
      have d2 : (24 * i + y) % 24 = y := by omega
      unfold kt_r ng_t
      rw [d1, d2]
      by_cases c : i / 2 = x
      · rw [if_pos ⟨c, hy⟩, if_pos c]
      · rw [if_neg (fun z => c z.1), if_neg c]
    have d1 : (24 * i + j) / 24 = i := by omega
    have d2 : (24 * i + j) % 24 = j := by omega
    unfold kt_c
    rw [d1, d2]
    by_cases c : j / 2 = x
    · rw [if_pos ⟨c, hi⟩, R _ bj]
      have : ng_t x j = oc_b j := by unfold ng_t; rw [if_pos c]
      rw [this]
    · rw [if_neg (fun z => c z.1), R _ hj]
      have : ng_t x j = j := by unfold ng_t; rw [if_neg c]
      rw [this]
/-- shift, with its limits -/
theorem kr_at {n i j : Nat} (hn : n ≤ 12) (hi : i < 24) (hj : j < 24) : kr n (2 * n) 0 (24 * i + j) = true ↔ (i < 2 * n ∧ j < 2 * n) := by
  have d1 : (24 * i + j) / 24 = i := by omega
  have d2 : (24 * i + j) % 24 = j := by omega
  unfold kr
  rw [decide_eq_true_eq, d1, d2]
  omega
theorem kr_T {n i j : Nat} (hn : n ≤ 12) (hi : i < 2 * n) (hj : j < 2 * n) {f g : Nat → Int64} : sw (kr n (2 * n) 0) f g (24 * i + j) = f (24 * i + j) := by
  unfold sw
  rw [if_pos ((kr_at hn (by omega) (by omega)).mpr ⟨hi, hj⟩)]
theorem k_292 {x : Nat} {l u : Int64} (r : RK h o (some A)) (hT : oc_C A.n A.m) (hx : x < A.n) (hl : -70368744177664 ≤ l.toInt ∧ l.toInt ≤ 70368744177664) (hu : -70368744177664 ≤ u.toInt ∧ u.toInt ≤ 70368744177664) (hb : ∀ i j, i < 2 * A.n → j < 2 * A.n → -4294967296 ≤ A.m i j ∧ A.m i j ≤ 4294967296) (hS : oc_C A.n (a_shift x l.toInt u.toInt A).m) : ∃ h', fq (kW o) h h' ∧ RK h' o (some (a_lim (2 * x + 1) (2 * x + 1) 2147483648 (a_lim (2 * x) (2 * x) 2147483647 (a_shift x l.toInt u.toInt A)))) ∧ ∀ Q, mcall (d + 1) 292 [.ref o, .int (Int32.ofNat x), .long l, .long u] h Q = Q none h' := by
  have r : KM h o A := r
  have n12 := r.n12
  refine ⟨_, ?f, ?r, fun Q => c_292 r.s r.n r.n12 hx⟩
  case f => exact fq_J kW1
  case r =>
    refine KM_J r rfl rfl (fun _ => rfl) (fun _ => rfl) (fun _ => rfl) ?_
    have sa : ∀ v, (ksa x l u v).toInt = a_sa x l.toInt u.toInt (oc_b v) ∧ -70368744177664 ≤ (ksa x l u v).toInt ∧ (ksa x l u v).toInt ≤ 70368744177664 := fun v => by
      rw [a_sa_b]
      unfold ksa
      split
      · omega
      · split
        · rw [i64_n (by omega)]; omega
        · exact ⟨rfl, by decide, by decide⟩
    have S0 : ∀ i j, i < 2 * A.n → j < 2 * A.n → (sw (kr A.n (2 * A.n) 0) (ks_f x l u (mh_j h (o + 1))) (mh_j h (o + 1)) (24 * i + j)).toInt = (a_shift x l.toInt u.toInt A).m (oc_b i) j := fun i j hi hj => by
      have d1 : (24 * i + j) / 24 = i := by omega
      have d2 : (24 * i + j) % 24 = j := by omega
      have b := hb (oc_b i) j (oc_bl hi) hj
      have e := r.m i j hi hj
      rw [kr_T n12 hi hj]
      show _ = A.m (oc_b i) j + (if oc_b i = j then 0 else a_sa x l.toInt u.toInt (oc_b i) + a_sa x l.toInt u.toInt (oc_b j))
      unfold ks_f
      rw [d1, d2]
      by_cases c : j = oc_b i
      · rw [if_pos c, if_pos c.symm, ladd_int (by rw [e]; show _ ≤ A.m (oc_b i) j + 0; omega) (by rw [e]; show A.m (oc_b i) j + 0 < _; omega), e]; rfl
      · have a1 := sa i
        have a2 := sa j
        have a3 : (ksa x l u i + ksa x l u j).toInt = (ksa x l u i).toInt + (ksa x l u j).toInt := ladd_int (by omega) (by omega)
        rw [if_neg c, if_neg (fun z => c z.symm), ladd_int (by omega) (by omega), a3, a1.1, a2.1, e]
    have hx2 : 2 * x < 2 * A.n := by omega
    have hx3 : 2 * x + 1 < 2 * A.n := by omega
    have S1 : ∀ i j, i < 2 * A.n → j < 2 * A.n → _ := fun i j hi hj => k_limG (B := a_shift x l.toInt u.toInt A) (i := 2 * x) (j := 2 * x) (c := 2147483647) n12 hS S0 hx2 hx2 (by decide) (x := i) (y := j) hi hj
    have C1 : oc_C A.n (a_lim (2 * x) (2 * x) 2147483647 (a_shift x l.toInt u.toInt A)).m := a_lim_C (A := a_shift x l.toInt u.toInt A) hS hx2 hx2 (fun z => oc_bn _ z.symm)
    intro i j hi hj
    exact k_limG (B := a_lim (2 * x) (2 * x) 2147483647 (a_shift x l.toInt u.toInt A)) (i := 2 * x + 1) (j := 2 * x + 1) (c := 2147483648) n12 C1 S1 hx3 hx3 (by decide) (x := i) (y := j) hi hj
end KL2
