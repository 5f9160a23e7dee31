set_option maxRecDepth 100000
/-! RUNS: a step does alike on what is alike -/
def wT (cc : Nat) (sN : Int → Prop) (en : Int → Nat) (A : ab) (t : tr) : Prop := (cc = 1 ∨ cc = 4 ∨ cc = 9 → wS sN en A t false) ∧ (cc = 5 → wS sN en A t false ∧ wS sN en A (tT t) false) ∧ (cc = 6 → wR sN en A t) ∧ (cc = 7 ∨ cc = 8 → wC sN en A t false)
theorem AG_t {n a : Nat} {rm : Nat → Nat} {V V' V'' P P' P'' : Nat → Int32} (x : AG n a rm V V' P P') (y : AG n a rm V' V'' P' P'') : AG n a rm V V'' P P'' := ⟨fun j hj => (x.1 j hj).trans (y.1 j hj), fun j i hj hi => (x.2 j i hj hi).trans (y.2 j i hj hi)⟩
theorem AG_w {n a n' a' : Nat} {rm rm' : Nat → Nat} {V V' P P' : Nat → Int32} (x : AG n a rm V V' P P') (hn : n' ≤ n) (ha : a' ≤ a) (hr : ∀ j, j < a' → rm' j = rm j) : AG n' a' rm' V V' P P' := ⟨fun j hj => x.1 j (by omega), fun j i hj hi => x.2 j i (by omega) (by rw [← hr j hj]; exact hi)⟩
section SAs
variable {en : Int → Nat} {sN : Int → Prop} {A : ab} {V V' P P' N : Nat → Int32} {g n a : Nat} {rm : Nat → Nat}
/-- two outcomes alike -/
def SE (n a : Nat) (rm : Nat → Nat) (q q' : so5) : Prop := q.w = q'.w ∧ q.c = q'.c ∧ q.b = q'.b ∧ (q.w = 0 → AG n a rm q.V q'.V q.P q'.P)
theorem SE_z {q q' : xr} {f f' : Int → Nat → so5} (h : q = q') (hw : q.1 = none → ¬ q.2.1 = 0) (hf : ∀ v c, q.1 = some v → SE n a rm (f v c) (f' v c)) : SE n a rm (s_z V P q f) (s_z V' P' q' f') := by
  subst h
  unfold s_z
  cases hq : q.1 with
  | none => exact ⟨rfl, rfl, rfl, fun z => absurd z (hw hq)⟩
  | some v => exact hf v _ hq
theorem SE_y {q q' : yr} {f f' : Bool → Nat → so5} (h : q = q') (hw : q.1 = none → ¬ q.2.1 = 0) (hf : ∀ v c, SE n a rm (f v c) (f' v c)) : SE n a rm (s_y V P q f) (s_y V' P' q' f') := by
  subst h
  unfold s_y
  cases hq : q.1 with
  | none => exact ⟨rfl, rfl, rfl, fun z => absurd z (hw hq)⟩
  | some v => exact hf v _
/-- a trap is no 0 -/
theorem xbi_w {q : xr} {f : Int → Nat → xr} (h1 : q.1 = none → ¬ q.2.1 = 0) (h2 : ∀ v c, (f v c).1 = none → ¬ (f v c).2.1 = 0) : (x_bi q f).1 = none → ¬ (x_bi q f).2.1 = 0 := by
  unfold x_bi
  cases hq : q.1 with
  | none => exact fun _ => h1 hq
  | some v => exact h2 v _
theorem xint_w {v : Int} {c : Nat} : (x_int v c).1 = none → ¬ (x_int v c).2.1 = 0 := by
  unfold x_int
  split
  · exact fun _ => (by decide : ¬ (1 : Int32) = 0)
  · exact fun z => by cases z
theorem xop_w {k c : Nat} {a b : Int} : (x_op k a b c).1 = none → ¬ (x_op k a b c).2.1 = 0 := by
  unfold x_op
  split
  · exact fun _ => (by decide : ¬ (2 : Int32) = 0)
  · exact xint_w
theorem xv_w : ∀ t, (∀ c, (xv en V P rm N g t none c).1 = none → ¬ (xv en V P rm N g t none c).2.1 = 0) ∧ (∀ a c, (xv en V P rm N g t (some a) c).1 = none → ¬ (xv en V P rm N g t (some a) c).2.1 = 0) ∧ (∀ c, (xv en V P rm N g (tT t) none c).1 = none → ¬ (xv en V P rm N g (tT t) none c).2.1 = 0) ∧ (∀ a c, (xv en V P rm N g (tT t) (some a) c).1 = none → ¬ (xv en V P rm N g (tT t) (some a) c).2.1 = 0) := by
  intro t
  induction t with
  | leaf u => exact ⟨fun _ z => (by cases z), fun _ _ z => (by cases z), fun _ z => (by cases z), fun _ _ z => (by cases z)⟩
  | branch n cs r ih1 ih2 =>
    obtain ⟨a1, a2, a3, a4⟩ := ih1
    obtain ⟨b1, b2, b3, b4⟩ := ih2
    refine ⟨fun c => ?_, fun a c => ?_, b1, b2⟩
    · by_cases k12 : tK n = 12
      · rw [xv_12 k12]; exact fun z => by cases z
      by_cases k13 : tK n = 13
      · rw [xv_13 k13]; exact fun z => by cases z
      by_cases k14 : tK n = 14
      · rcases cs with u | ⟨m, cs', r'⟩
        · have e : xv en V P rm N g (.branch n (.leaf u) r) none c = x_ok 0 c := by
            show (if tK n = 12 then _ else if tK n = 13 then _ else if tK n = 14 then _ else _ : xr) = _
            rw [if_neg k12, if_neg k13, if_pos k14]
          rw [e]; exact fun z => by cases z
        · rw [xv_14 k14]
          refine xbi_w (a3 c) (fun v c' => ?_)
          show (if _ then x_tr 4 c' else x_ok _ c' : xr).1 = none → ¬ (if _ then x_tr 4 c' else x_ok _ c' : xr).2.1 = 0
          split
          · exact fun _ => (by decide : ¬ (4 : Int32) = 0)
          · exact fun z => by cases z
      by_cases k15 : tK n = 15
      · rw [xv_15 k15]
        exact xbi_w (a1 c) (fun v c' => xint_w)
      by_cases k16 : tK n = 16
      · have z : (xv en V P rm N g (.branch n cs r) none c).1 ≠ none := by
          rcases cs with _ | ⟨_, _, _ | ⟨_, _, _⟩⟩
          all_goals
            show (if tK n = 12 then _ else if tK n = 13 then _ else if tK n = 14 then _ else if tK n = 15 then _ else if tK n = 16 then _ else _ : xr).1 ≠ none
            rw [if_neg k12, if_neg k13, if_neg k14, if_neg k15, if_pos k16]
            exact fun z => by cases z
        exact fun y => absurd y z
      · rcases cs with u | ⟨m, cs', r'⟩
        · have e : xv en V P rm N g (.branch n (.leaf u) r) none c = x_ok 0 c := by
            show (if tK n = 12 then _ else if tK n = 13 then _ else if tK n = 14 then _ else if tK n = 15 then _ else if tK n = 16 then _ else _ : xr) = _
            rw [if_neg k12, if_neg k13, if_neg k14, if_neg k15, if_neg k16]
          rw [e]; exact fun z => by cases z
        · rw [xv_17 ⟨k12, k13, k14, k15, k16⟩]
          exact xbi_w (a1 c) (fun v c' => a4 v c')
    · rw [xv_L]
      exact xbi_w (a1 c) (fun v c' => xbi_w xop_w (fun w c'' => b2 w c''))
theorem xh_w : ∀ t mo an c, (xh en V P rm N g t mo an c).1 = none → ¬ (xh en V P rm N g t mo an c).2.1 = 0 := by
  have yb : ∀ {q : yr} {f : Bool → Nat → yr}, (q.1 = none → ¬ q.2.1 = 0) → (∀ v c, (f v c).1 = none → ¬ (f v c).2.1 = 0) → (y_bi q f).1 = none → ¬ (y_bi q f).2.1 = 0 := fun {q f} h1 h2 => by
    unfold y_bi
    cases hq : q.1 with
    | none => exact fun _ => h1 hq
    | some v => exact h2 v _
  have yv : ∀ {q : xr} {f : Int → Nat → yr}, (q.1 = none → ¬ q.2.1 = 0) → (∀ v c, (f v c).1 = none → ¬ (f v c).2.1 = 0) → (y_v q f).1 = none → ¬ (y_v q f).2.1 = 0 := fun {q f} h1 h2 => by
    unfold y_v
    cases hq : q.1 with
    | none => exact fun _ => h1 hq
    | some v => exact h2 v _
  intro t
  induction t with
  | leaf u => exact fun _ _ _ z => by cases z
  | branch n cs r i1 i2 =>
    have NODE : ∀ an c, (xh en V P rm N g (.branch n cs r) false an c).1 = none → ¬ (xh en V P rm N g (.branch n cs r) false an c).2.1 = 0 := fun an c => by
      by_cases k26 : tK n = 26
      · rw [xh_26 k26]
        exact yb (i1 _ _ _) (fun v c' z => by cases z)
      by_cases k25 : tK n = 24 ∨ tK n = 25
      · rw [xh_25 k25]
        exact i1 _ _ _
      · have e : xh en V P rm N g (.branch n cs r) false an c = y_v (xv en V P rm N g cs none c) (fun v c' => y_v (xv en V P rm N g (tT cs) none c') (fun w c' => (some (x_rel (tK n) v w), 0, c'))) := by
          show (if tK n = 26 then _ else if tK n = 24 ∨ tK n = 25 then _ else _) = _
          rw [if_neg k26, if_neg k25]
        rw [e]
        have X := xv_w (en := en) (V := V) (P := P) (rm := rm) (N := N) (g := g) cs
        exact yv (X.1 c) (fun v c' => yv (X.2.2.1 c') (fun w c'' z => by cases z))
    intro mo an c
    cases mo with
    | false => exact NODE an c
    | true =>
      rw [xh_L]
      refine yb (NODE an c) (fun b c' => ?_)
      show (if b = an then _ else _ : yr).1 = none → ¬ (if b = an then _ else _ : yr).2.1 = 0
      split
      · exact i2 _ _ _
      · exact fun z => by cases z
theorem s_row_ag (X : AG A.n A.a A.rm V V' P P') : ∀ t k c W W', wR sN en A t → (∀ j, j < k → W j = W' j) → SE (k + tl t) A.a A.rm (s_row en V P A.rm N g t k c W) (s_row en V' P' A.rm N g t k c W') := by
  intro t
  induction t with
  | leaf u => exact fun k c W W' _ h => ⟨rfl, rfl, rfl, fun _ => ⟨h, X.2⟩⟩
  | branch m cs r _ ih =>
    intro k c W W' hw h
    have e : ∀ V P W, s_row en V P A.rm N g (.branch m cs r) k c W = s_z V P (xv en V P A.rm N g (.branch m cs r) none c) (fun v c' => s_row en V P A.rm N g r (k + 1) c' (s_up W k v)) := fun _ _ _ => rfl
    rw [e, e]
    have tl' : k + tl (.branch m cs r) = k + 1 + tl r := by show k + (1 + tl r) = _; omega
    rw [tl']
    refine SE_z ((xv_ag (sN := sN) (en := en) (N := N) (g := g) X (.branch m cs r)).1 c hw.1) ((xv_w _).1 c) (fun v c' _ => ih (k + 1) c' _ _ hw.2 (fun j hj => ?_))
    unfold s_up
    by_cases cj : j = k
    · rw [if_pos cj, if_pos cj]
    · rw [if_neg cj, if_neg cj]; exact h j (by omega)
theorem up_ag {k : Nat} {v : Int} {W W' : Nat → Int32} {n : Nat} (h : ∀ j, j < n → j ≠ k → W j = W' j) : ∀ j, j < n → s_up W k v j = s_up W' k v j := fun j hj => by
  unfold s_up
  by_cases cj : j = k
  · rw [if_pos cj, if_pos cj]
  · rw [if_neg cj, if_neg cj]; exact h j hj cj
theorem s_st_ag {t : tr} {x sz : Nat} {tk : Option Nat} {c cc : Nat} (X : AG A.n A.a A.rm V V' P P') (w : wT cc sN en A t) (hrm : ∀ x, x < A.a → A.rm x ≤ 64) (hc : 1 ≤ cc ∧ cc ≤ 9) (hx : cc = 5 → x < A.a) (hz : cc = 3 → sz ≤ 64) : SE (afN cc A.n t) (afA cc A.a) (afR cc A.a sz A.rm) (s_st en t x tk A.n A.a A.rm N g V P c cc) (s_st en t x tk A.n A.a A.rm N g V' P' c cc) := by
  obtain ⟨w1, w5, w6, w7⟩ := w
  have e1 := fun (hw : wS sN en A t false) => (xv_ag (sN := sN) (en := en) (N := N) (g := g) X t).1 c hw
  have c9 : cc = 1 ∨ cc = 2 ∨ cc = 3 ∨ cc = 4 ∨ cc = 5 ∨ cc = 6 ∨ cc = 7 ∨ cc = 8 ∨ cc = 9 := by omega
  rcases c9 with e | e | e | e | e | e | e | e | e <;> subst e
  · rw [sst_1, sst_1]
    exact SE_z (e1 (w1 (Or.inl rfl))) ((xv_w _).1 c) (fun v c' _ => ⟨rfl, rfl, rfl, fun _ => ⟨up_ag (fun j hj hk => X.1 j (by have hj : j < A.n + 1 := hj; omega)), X.2⟩⟩)
  · rw [sst_2, sst_2]
    exact ⟨rfl, rfl, rfl, fun _ => ⟨up_ag (fun j hj hk => X.1 j (by have hj : j < A.n + 1 := hj; omega)), X.2⟩⟩
  · rw [sst_3, sst_3]
    refine ⟨rfl, rfl, rfl, fun _ => ⟨X.1, fun y i hy hi => ?_⟩⟩
    have hy : y < A.a + 1 := hy
    have hi : i < if y = A.a then sz else A.rm y := hi
    have hz := hz rfl
    show (if 64 * A.a ≤ 64 * y + i ∧ 64 * y + i < 64 * A.a + 64 then 0 else P (64 * y + i)) = (if 64 * A.a ≤ 64 * y + i ∧ 64 * y + i < 64 * A.a + 64 then 0 else P' (64 * y + i))
    by_cases ya : y = A.a
    · rw [if_pos ya] at hi
      rw [if_pos (by omega), if_pos (by omega)]
    · rw [if_neg ya] at hi
      split
      · rfl
      · exact X.2 y i (by omega) hi
  · rw [sst_4, sst_4]
    exact SE_z (e1 (w1 (Or.inr (Or.inl rfl)))) ((xv_w _).1 c) (fun v c' _ => ⟨rfl, rfl, rfl, fun _ => ⟨up_ag (fun j hj _ => X.1 j hj), X.2⟩⟩)
  · rw [sst_5, sst_5]
    obtain ⟨wa, wb⟩ := w5 rfl
    refine SE_z (e1 wa) ((xv_w _).1 c) (fun i c' _ => ?_)
    show SE _ _ _ (if i < 0 ∨ _ ≤ i then _ else _) (if i < 0 ∨ _ ≤ i then _ else _)
    split
    · exact ⟨rfl, rfl, rfl, fun z => absurd z (show ¬ (4 : Int32) = 0 by decide)⟩
    · refine SE_z ((xv_ag (sN := sN) (en := en) (N := N) (g := g) X t).2.2.1 c' wb) ((xv_w t).2.2.1 c') (fun v c'' _ => ⟨rfl, rfl, rfl, fun _ => ⟨X.1, fun y j hy hj => ?_⟩⟩)
      show s_up P (64 * x + i.toNat) v (64 * y + j) = s_up P' (64 * x + i.toNat) v (64 * y + j)
      unfold s_up
      by_cases cj : 64 * y + j = 64 * x + i.toNat
      · rw [if_pos cj, if_pos cj]
      · rw [if_neg cj, if_neg cj]; exact X.2 y j hy hj
  · rw [sst_6, sst_6]
    exact s_row_ag X t A.n c V V' (w6 rfl) X.1
  · rw [sst_7, sst_7]
    exact SE_y (xh_ag (sN := sN) (N := N) (g := g) X t false false c (w7 (Or.inl rfl))) (xh_w t false false c) (fun v c' => ⟨rfl, rfl, rfl, fun _ => X⟩)
  · rw [sst_8, sst_8]
    exact SE_y (xh_ag (sN := sN) (N := N) (g := g) X t false false c (w7 (Or.inr rfl))) (xh_w t false false c) (fun v c' => ⟨rfl, rfl, rfl, fun _ => X⟩)
  · rw [sst_9, sst_9]
    refine SE_z (e1 (w1 (Or.inr (Or.inr rfl)))) ((xv_w _).1 c) (fun v c' _ => ⟨rfl, rfl, rfl, fun _ => ⟨?_, X.2⟩⟩)
    cases tk with
    | none => exact X.1
    | some y => exact up_ag (fun j hj _ => X.1 j hj)
end SAs
/-- whether cells and places lie in what is known -/
def o_has (X : Option ab) (V P : Nat → Int32) : Prop := match X with
  | none => False
  | some A => a_has A (fun j => (V j).toInt) (fun j => (P j).toInt)
theorem o_has_ag {X : Option ab} {n a : Nat} {rm : Nat → Nat} {V V' P P' : Nat → Int32} (s : shp n a rm X) (G : AG n a rm V V' P P') : o_has X V P ↔ o_has X V' P' := by
  cases X with
  | none => exact Iff.rfl
  | some A =>
    obtain ⟨-, s1, s2, s3⟩ := s A rfl
    have hv : ∀ i, i < 2 * A.n → vI (fun j => (V j).toInt) i = vI (fun j => (V' j).toInt) i := fun i hi => by
      have e := G.1 (i / 2) (by omega)
      show (if i % 2 = 0 then (V (i / 2)).toInt else -(V (i / 2)).toInt) = (if i % 2 = 0 then (V' (i / 2)).toInt else -(V' (i / 2)).toInt)
      rw [e]
    show a_has A (fun j => (V j).toInt) (fun j => (P j).toInt) ↔ a_has A (fun j => (V' j).toInt) (fun j => (P' j).toInt)
    unfold a_has
    constructor
    · rintro ⟨h1, h2⟩
      refine ⟨fun i j hi hj => by rw [← hv i hi, ← hv j hj]; exact h1 i j hi hj, fun x hx k hk => ?_⟩
      have this : A.lo x ≤ (P (64 * x + k)).toInt ∧ (P (64 * x + k)).toInt ≤ A.hi x := h2 x hx k hk
      rw [G.2 x k (by omega) (by rw [← s3 x (by omega)]; exact hk)] at this
      exact this
    · rintro ⟨h1, h2⟩
      refine ⟨fun i j hi hj => by rw [hv i hi, hv j hj]; exact h1 i j hi hj, fun x hx k hk => ?_⟩
      have this : A.lo x ≤ (P' (64 * x + k)).toInt ∧ (P' (64 * x + k)).toInt ≤ A.hi x := h2 x hx k hk
      rw [← G.2 x k (by omega) (by rw [← s3 x (by omega)]; exact hk)] at this
      exact this
theorem s_st_b {en : Int → Nat} {t : tr} {x : Nat} {tk : Option Nat} {n a : Nat} {rm : Nat → Nat} {N : Nat → Int32} {g : Nat} {V P : Nat → Int32} {c k : Nat} (hk : ¬ k = 7) : (s_st en t x tk n a rm N g V P c k).b = true := by
  have yb : ∀ {q : yr} {f : Bool → Nat → so5}, (∀ v c, (f v c).b = true) → (s_y V P q f).b = true := fun {q f} hf => by
    unfold s_y
    cases q.1 with
    | none => rfl
    | some v => exact hf v _
  unfold s_st
  split
  · exact s_z_b (fun _ _ => rfl)
  split
  · rfl
  split
  · rfl
  split
  · exact s_z_b (fun _ _ => rfl)
  split
  · refine s_z_b (fun i c' => ?_)
    show (if i < 0 ∨ _ ≤ i then _ else _ : so5).b = true
    split
    · rfl
    · exact s_z_b (fun _ _ => rfl)
  split
  · exact (s_row_P _ _ _ _).2
  split
  · exact yb (fun _ _ => rfl)
  · exact s_z_b (fun _ _ => rfl)
theorem s_row_t {en : Int → Nat} {V P : Nat → Int32} {rm : Nat → Nat} {N : Nat → Int32} {g : Nat} : ∀ t k c W, TV V P (s_row en V P rm N g t k c W) := by
  intro t
  induction t with
  | leaf u => exact fun _ _ _ => TV_0 rfl
  | branch m cs r _ ih =>
    intro k c W
    have e : s_row en V P rm N g (.branch m cs r) k c W = s_z V P (xv en V P rm N g (.branch m cs r) none c) (fun v c' => s_row en V P rm N g r (k + 1) c' (s_up W k v)) := rfl
    rw [e]
    exact TV_z (fun v c' => ih _ _ _)
theorem s_st_t {en : Int → Nat} {t : tr} {x : Nat} {tk : Option Nat} {n a : Nat} {rm : Nat → Nat} {N : Nat → Int32} {g : Nat} {V P : Nat → Int32} {c k : Nat} : TV V P (s_st en t x tk n a rm N g V P c k) := by
  have yb : ∀ {q : yr} {f : Bool → Nat → so5}, (∀ v c, TV V P (f v c)) → TV V P (s_y V P q f) := fun {q f} hf => by
    unfold s_y
    cases q.1 with
    | none => exact fun _ => ⟨rfl, rfl⟩
    | some v => exact hf v _
  unfold s_st
  split
  · exact TV_z (fun _ _ => TV_0 rfl)
  split
  · exact TV_0 rfl
  split
  · exact TV_0 rfl
  split
  · exact TV_z (fun _ _ => TV_0 rfl)
  split
  · refine TV_z (fun i c' => ?_)
    show TV V P (if i < 0 ∨ _ ≤ i then _ else _)
    split
    · exact fun _ => ⟨rfl, rfl⟩
    · exact TV_z (fun _ _ => TV_0 rfl)
  split
  · exact s_row_t _ _ _ _
  split
  · exact yb (fun _ _ => TV_0 rfl)
  split
  · exact yb (fun _ _ _ => ⟨rfl, rfl⟩)
  · exact TV_z (fun _ _ => TV_0 rfl)
