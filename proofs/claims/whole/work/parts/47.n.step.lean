set_option maxRecDepth 100000
/-! RUNS: one step, and what of cells and places matters -/
/-- alike where it matters -/
def AG (n a : Nat) (rm : Nat → Nat) (V V' P P' : Nat → Int32) : Prop := (∀ x, x < n → V x = V' x) ∧ ∀ x i, x < a → i < rm x → P (64 * x + i) = P' (64 * x + i)
theorem AG_id {n a : Nat} {rm : Nat → Nat} {V P : Nat → Int32} : AG n a rm V V P P := ⟨fun _ _ => rfl, fun _ _ _ _ => rfl⟩
section AGs
variable {en : Int → Nat} {sN : Int → Prop} {A : ab} {V V' P P' N : Nat → Int32} {g : Nat}
theorem x_bi_e {q q' : xr} {f f' : Int → Nat → xr} (h1 : q = q') (h2 : ∀ v c, q.1 = some v → f v c = f' v c) : x_bi q f = x_bi q' f' := by
  subst h1
  unfold x_bi
  cases hq : q.1 with
  | none => rfl
  | some v => exact h2 v _ hq
theorem xv_ag (G : AG A.n A.a A.rm V V' P P') : ∀ t, (∀ c, wS sN en A t false → xv en V P A.rm N g t none c = xv en V' P' A.rm N g t none c) ∧ (∀ a c, wS sN en A t true → xv en V P A.rm N g t (some a) c = xv en V' P' A.rm N g t (some a) c) ∧ (∀ c, wS sN en A (tT t) false → xv en V P A.rm N g (tT t) none c = xv en V' P' A.rm N g (tT t) none c) ∧ (∀ a c, wS sN en A (tT t) true → xv en V P A.rm N g (tT t) (some a) c = xv en V' P' A.rm N g (tT t) (some a) c) := by
  intro t
  induction t with
  | leaf u => exact ⟨fun _ _ => rfl, fun _ _ _ => rfl, fun _ _ => rfl, fun _ _ _ => rfl⟩
  | branch n cs r ih1 ih2 =>
    obtain ⟨a1, a2, a3, a4⟩ := ih1
    obtain ⟨b1, b2, b3, b4⟩ := ih2
    refine ⟨fun c hw => ?_, fun a c hw => ?_, b1, b2⟩
    · by_cases k12 : tK n = 12
      · rw [xv_12 k12, xv_12 k12]
      by_cases k13 : tK n = 13
      · obtain ⟨w1, w2⟩ := w_13 k13 hw
        rw [xv_13 k13, xv_13 k13, G.1 _ w2]
      by_cases k14 : tK n = 14
      · obtain ⟨m, cs', r', rfl, v1, v2, v3, v4, v5, v6⟩ := w_14 k14 hw
        rw [xv_14 k14, xv_14 k14]
        refine x_bi_e (a3 c v6) (fun v c' _ => ?_)
        show (if v < 0 ∨ _ ≤ v then x_tr 4 c' else x_ok (P _).toInt c') = (if v < 0 ∨ _ ≤ v then x_tr 4 c' else x_ok (P' _).toInt c')
        split
        · rfl
        · rw [G.2 (en (tV m)) v.toNat v3 (by omega)]
      by_cases k15 : tK n = 15
      · rw [xv_15 k15, xv_15 k15]
        exact x_bi_e (a1 c (w_15 k15 hw)) (fun v c' _ => rfl)
      by_cases k16 : tK n = 16
      · rcases w_16 k16 hw with ⟨u, rfl⟩ | ⟨l, c1', g', c2', r2', rfl, v1, v2, v3, v4⟩
        · rw [xv_16 k16, xv_16 k16]
        · rw [xv_16b k16, xv_16b k16]
      · have kn : ¬ tK n = 12 ∧ ¬ tK n = 13 ∧ ¬ tK n = 14 ∧ ¬ tK n = 15 ∧ ¬ tK n = 16 := ⟨k12, k13, k14, k15, k16⟩
        obtain ⟨m, cs', r', rfl, v1, v2⟩ := w_17 kn hw
        rw [xv_17 kn, xv_17 kn]
        exact x_bi_e (a1 c v1) (fun v c' _ => a4 v c' v2)
    · obtain ⟨w1, w2, w3⟩ := hw
      rw [xv_L, xv_L]
      exact x_bi_e (a1 c w2) (fun v c' _ => x_bi_e rfl (fun v c' _ => b2 v c' w3))
theorem y_bi_e {q q' : yr} {f f' : Bool → Nat → yr} (h1 : q = q') (h2 : ∀ v c, f v c = f' v c) : y_bi q f = y_bi q' f' := by
  subst h1
  unfold y_bi
  cases hq : q.1 with
  | none => rfl
  | some v => exact h2 v _
theorem y_v_e {q q' : xr} {f f' : Int → Nat → yr} (h1 : q = q') (h2 : ∀ v c, f v c = f' v c) : y_v q f = y_v q' f' := by
  subst h1
  unfold y_v
  cases hq : q.1 with
  | none => rfl
  | some v => exact h2 v _
theorem xh_ag (G : AG A.n A.a A.rm V V' P P') : ∀ t mo an c, wC sN en A t mo → xh en V P A.rm N g t mo an c = xh en V' P' A.rm N g t mo an c := by
  intro t
  induction t with
  | leaf u => exact fun _ _ _ _ => rfl
  | branch n cs r i1 i2 =>
    have NODE : ∀ an c, wC sN en A (.branch n cs r) false → xh en V P A.rm N g (.branch n cs r) false an c = xh en V' P' A.rm N g (.branch n cs r) false an c := fun an c hw => by
      by_cases k26 : tK n = 26
      · rw [xh_26 k26, xh_26 k26]
        exact y_bi_e (i1 _ _ _ (wC_26 k26 hw)) (fun _ _ => rfl)
      by_cases k25 : tK n = 24 ∨ tK n = 25
      · rw [xh_25 k25, xh_25 k25]
        exact i1 _ _ _ (wC_25 k25 hw)
      · obtain ⟨o1, o2, m1, c1, m2, c2, r2, hcs, w1, -, -, w2, -, -⟩ := wC_27 k26 k25 hw
        rw [xh_27 o1, xh_27 o1]
        have X := xv_ag (sN := sN) (en := en) (N := N) (g := g) G cs
        have tT' : tT cs = .branch m2 c2 r2 := by rw [hcs]; rfl
        exact y_v_e (X.1 _ (by rw [hcs]; exact w1)) (fun v c' => y_v_e (X.2.2.1 _ (by rw [tT']; exact w2)) (fun _ _ => rfl))
    intro mo an c hw
    cases mo with
    | false => exact NODE an c hw
    | true =>
      rw [xh_L, xh_L]
      refine y_bi_e (NODE an c (wC_f hw)) (fun b c' => ?_)
      rw [i2 true an c' (wC_r hw)]
end AGs
/-- what a step leaves: the trap, how many inputs, cells, places, whether it held -/
abbrev so5 : Type := Int32 × Nat × (Nat → Int32) × (Nat → Int32) × Bool
def so5.w (q : so5) : Int32 := q.1
def so5.c (q : so5) : Nat := q.2.1
def so5.V (q : so5) : Nat → Int32 := q.2.2.1
def so5.P (q : so5) : Nat → Int32 := q.2.2.2.1
def so5.b (q : so5) : Bool := q.2.2.2.2
def s_up (f : Nat → Int32) (k : Nat) (v : Int) : Nat → Int32 := fun j => if j = k then Int32.ofInt v else f j
def s_z (V P : Nat → Int32) (q : xr) (f : Int → Nat → so5) : so5 := match q.1 with
  | none => (q.2.1, q.2.2, V, P, true)
  | some v => f v q.2.2
def s_y (V P : Nat → Int32) (q : yr) (f : Bool → Nat → so5) : so5 := match q.1 with
  | none => (q.2.1, q.2.2, V, P, true)
  | some b => f b q.2.2
/-- the SUMs of a call, one after another -/
def s_row (en : Int → Nat) (V P : Nat → Int32) (rm : Nat → Nat) (N : Nat → Int32) (g : Nat) : tr → Nat → Nat → (Nat → Int32) → so5
  | .leaf _, _, c, W => (0, c, W, P, true)
  | .branch m cs r, k, c, W => s_z V P (xv en V P rm N g (.branch m cs r) none c) (fun v c' => s_row en V P rm N g r (k + 1) c' (s_up W k v))
def s_st (en : Int → Nat) (t : tr) (x : Nat) (tk : Option Nat) (n a : Nat) (rm : Nat → Nat) (N : Nat → Int32) (g : Nat) (V P : Nat → Int32) (c k : Nat) : so5 :=
  if k = 1 then s_z V P (xv en V P rm N g t none c) (fun v c' => (0, c', s_up V n v, P, true))
  else if k = 2 then (0, c, s_up V n 0, P, true)
  else if k = 3 then (0, c, V, (fun j => if 64 * a ≤ j ∧ j < 64 * a + 64 then 0 else P j), true)
  else if k = 4 then s_z V P (xv en V P rm N g t none c) (fun v c' => (0, c', s_up V x v, P, true))
  else if k = 5 then s_z V P (xv en V P rm N g t none c) (fun i c' => if i < 0 ∨ (rm x : Int) ≤ i then (4, c', V, P, true) else s_z V P (xv en V P rm N g (tT t) none c') (fun v c' => (0, c', V, s_up P (64 * x + i.toNat) v, true)))
  else if k = 6 then s_row en V P rm N g t n c V
  else if k = 7 then s_y V P (xh en V P rm N g t false false c) (fun b c' => (0, c', V, P, b))
  else if k = 8 then s_y V P (xh en V P rm N g t false false c) (fun b c' => (if b = true then 0 else 8, c', V, P, true))
  else s_z V P (xv en V P rm N g t none c) (fun v c' => (0, c', (match tk with | none => V | some y => s_up V y v), P, true))
