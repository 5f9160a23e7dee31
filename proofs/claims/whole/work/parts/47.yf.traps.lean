set_option maxRecDepth 100000
/-! RUNS: traps are more than 0 -/
section PWs
variable {en : Int → Nat} {sN : Int → Prop} {A : ab} {V V' P P' N : Nat → Int32} {g n a : Nat} {rm : Nat → Nat}
theorem xbi_p {q : xr} {f : Int → Nat → xr} (h1 : q.1 = none → 0 < q.2.1) (h2 : ∀ v c, (f v c).1 = none → 0 < (f v c).2.1) : (x_bi q f).1 = none → 0 < (x_bi q f).2.1 := by
  unfold x_bi
  cases hq : q.1 with
  | none => exact fun _ => h1 hq
  | some v => exact h2 v _
theorem xint_p {v : Int} {c : Nat} : (x_int v c).1 = none → 0 < (x_int v c).2.1 := by
  unfold x_int
  split
  · exact fun _ => (by decide : (0 : Int32) < 1)
  · exact fun z => by cases z
theorem xop_p {k c : Nat} {a b : Int} : (x_op k a b c).1 = none → 0 < (x_op k a b c).2.1 := by
  unfold x_op
  split
  · exact fun _ => (by decide : (0 : Int32) < 2)
  · exact xint_p
theorem xv_p : ∀ t, (∀ c, (xv en V P rm N g t none c).1 = none → 0 < (xv en V P rm N g t none c).2.1) ∧ (∀ a c, (xv en V P rm N g t (some a) c).1 = none → 0 < (xv en V P rm N g t (some a) c).2.1) ∧ (∀ c, (xv en V P rm N g (tT t) none c).1 = none → 0 < (xv en V P rm N g (tT t) none c).2.1) ∧ (∀ a c, (xv en V P rm N g (tT t) (some a) c).1 = none → 0 < (xv en V P rm N g (tT t) (some a) c).2.1) := by
  intro t
  induction t with
  | leaf u => exact ⟨fun _ z => (by cases z), fun _ _ z => (by cases z), fun _ z => (by cases z), fun _ _ z => (by cases z)⟩
  | branch n cs r ih1 ih2 =>
    obtain ⟨a1, a2, a3, a4⟩ := ih1
    obtain ⟨b1, b2, b3, b4⟩ := ih2
    refine ⟨fun c => ?_, fun a c => ?_, b1, b2⟩
    · by_cases k12 : tK n = 12
      · rw [xv_12 k12]; exact fun z => by cases z
      by_cases k13 : tK n = 13
      · rw [xv_13 k13]; exact fun z => by cases z
      by_cases k14 : tK n = 14
      · rcases cs with u | ⟨m, cs', r'⟩
        · have e : xv en V P rm N g (.branch n (.leaf u) r) none c = x_ok 0 c := by
            show (if tK n = 12 then _ else if tK n = 13 then _ else if tK n = 14 then _ else _ : xr) = _
            rw [if_neg k12, if_neg k13, if_pos k14]
          rw [e]; exact fun z => by cases z
        · rw [xv_14 k14]
          refine xbi_p (a3 c) (fun v c' => ?_)
          show (if _ then x_tr 4 c' else x_ok _ c' : xr).1 = none → 0 < (if _ then x_tr 4 c' else x_ok _ c' : xr).2.1
          split
          · exact fun _ => (by decide : (0 : Int32) < 4)
          · exact fun z => by cases z
      by_cases k15 : tK n = 15
      · rw [xv_15 k15]
        exact xbi_p (a1 c) (fun v c' => xint_p)
      by_cases k16 : tK n = 16
      · have z : (xv en V P rm N g (.branch n cs r) none c).1 ≠ none := by
          rcases cs with _ | ⟨_, _, _ | ⟨_, _, _⟩⟩
          all_goals
            show (if tK n = 12 then _ else if tK n = 13 then _ else if tK n = 14 then _ else if tK n = 15 then _ else if tK n = 16 then _ else _ : xr).1 ≠ none
            rw [if_neg k12, if_neg k13, if_neg k14, if_neg k15, if_pos k16]
            exact fun z => by cases z
        exact fun y => absurd y z
      · rcases cs with u | ⟨m, cs', r'⟩
        · have e : xv en V P rm N g (.branch n (.leaf u) r) none c = x_ok 0 c := by
            show (if tK n = 12 then _ else if tK n = 13 then _ else if tK n = 14 then _ else if tK n = 15 then _ else if tK n = 16 then _ else _ : xr) = _
            rw [if_neg k12, if_neg k13, if_neg k14, if_neg k15, if_neg k16]
          rw [e]; exact fun z => by cases z
        · rw [xv_17 ⟨k12, k13, k14, k15, k16⟩]
          exact xbi_p (a1 c) (fun v c' => a4 v c')
    · rw [xv_L]
      exact xbi_p (a1 c) (fun v c' => xbi_p xop_p (fun w c'' => b2 w c''))
theorem xh_p : ∀ t mo an c, (xh en V P rm N g t mo an c).1 = none → 0 < (xh en V P rm N g t mo an c).2.1 := by
  have yb : ∀ {q : yr} {f : Bool → Nat → yr}, (q.1 = none → 0 < q.2.1) → (∀ v c, (f v c).1 = none → 0 < (f v c).2.1) → (y_bi q f).1 = none → 0 < (y_bi q f).2.1 := fun {q f} h1 h2 => by
    unfold y_bi
    cases hq : q.1 with
    | none => exact fun _ => h1 hq
    | some v => exact h2 v _
  have yv : ∀ {q : xr} {f : Int → Nat → yr}, (q.1 = none → 0 < q.2.1) → (∀ v c, (f v c).1 = none → 0 < (f v c).2.1) → (y_v q f).1 = none → 0 < (y_v q f).2.1 := fun {q f} h1 h2 => by
    unfold y_v
    cases hq : q.1 with
    | none => exact fun _ => h1 hq
    | some v => exact h2 v _
  intro t
  induction t with
  | leaf u => exact fun _ _ _ z => by cases z
  | branch n cs r i1 i2 =>
    have NODE : ∀ an c, (xh en V P rm N g (.branch n cs r) false an c).1 = none → 0 < (xh en V P rm N g (.branch n cs r) false an c).2.1 := fun an c => by
      by_cases k26 : tK n = 26
      · rw [xh_26 k26]
        exact yb (i1 _ _ _) (fun v c' z => by cases z)
      by_cases k25 : tK n = 24 ∨ tK n = 25
      · rw [xh_25 k25]
        exact i1 _ _ _
      · have e : xh en V P rm N g (.branch n cs r) false an c = y_v (xv en V P rm N g cs none c) (fun v c' => y_v (xv en V P rm N g (tT cs) none c') (fun w c' => (some (x_rel (tK n) v w), 0, c'))) := by
          show (if tK n = 26 then _ else if tK n = 24 ∨ tK n = 25 then _ else _) = _
          rw [if_neg k26, if_neg k25]
        rw [e]
        have X := xv_p (en := en) (V := V) (P := P) (rm := rm) (N := N) (g := g) cs
        exact yv (X.1 c) (fun v c' => yv (X.2.2.1 c') (fun w c'' z => by cases z))
    intro mo an c
    cases mo with
    | false => exact NODE an c
    | true =>
      rw [xh_L]
      refine yb (NODE an c) (fun b c' => ?_)
      show (if b = an then _ else _ : yr).1 = none → 0 < (if b = an then _ else _ : yr).2.1
      split
      · exact i2 _ _ _
      · exact fun z => by cases z
def PW (q : so5) : Prop := q.w = 0 ∨ 0 < q.w
theorem PW_z {q : xr} {f : Int → Nat → so5} (h : q.1 = none → 0 < q.2.1) (hf : ∀ v c, PW (f v c)) : PW (s_z V P q f) := by
  unfold s_z
  cases hq : q.1 with
  | none => exact Or.inr (h hq)
  | some v => exact hf v _
theorem PW_y {q : yr} {f : Bool → Nat → so5} (h : q.1 = none → 0 < q.2.1) (hf : ∀ v c, PW (f v c)) : PW (s_y V P q f) := by
  unfold s_y
  cases hq : q.1 with
  | none => exact Or.inr (h hq)
  | some v => exact hf v _
theorem s_row_p : ∀ t k c W, PW (s_row en V P rm N g t k c W) := by
  intro t
  induction t with
  | leaf u => exact fun _ _ _ => Or.inl rfl
  | branch m cs r _ ih =>
    intro k c W
    have e : s_row en V P rm N g (.branch m cs r) k c W = s_z V P (xv en V P rm N g (.branch m cs r) none c) (fun v c' => s_row en V P rm N g r (k + 1) c' (s_up W k v)) := rfl
    rw [e]
    exact PW_z ((xv_p _).1 c) (fun v c' => ih _ _ _)
theorem s_st_p {t : tr} {x : Nat} {tk : Option Nat} {c k : Nat} : PW (s_st en t x tk n a rm N g V P c k) := by
  have xp := (xv_p (en := en) (V := V) (P := P) (rm := rm) (N := N) (g := g) t).1 c
  unfold s_st
  split
  · exact PW_z xp (fun _ _ => Or.inl rfl)
  split
  · exact Or.inl rfl
  split
  · exact Or.inl rfl
  split
  · exact PW_z xp (fun _ _ => Or.inl rfl)
  split
  · refine PW_z xp (fun i c' => ?_)
    show PW (if i < 0 ∨ _ ≤ i then _ else _)
    split
    · exact Or.inr (by decide : (0 : Int32) < 4)
    · exact PW_z ((xv_p t).2.2.1 c') (fun _ _ => Or.inl rfl)
  split
  · exact s_row_p _ _ _ _
  split
  · exact PW_y (xh_p t false false c) (fun _ _ => Or.inl rfl)
  split
  · refine PW_y (xh_p t false false c) (fun b _ => ?_)
    cases b with
    | true => exact Or.inl rfl
    | false => exact Or.inr (by decide : (0 : Int32) < 8)
  · exact PW_z xp (fun _ _ => Or.inl rfl)
end PWs
